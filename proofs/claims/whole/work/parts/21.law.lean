theorem dJ9_max_7cf53_0 : decode cJ9_max_7cf53 0 = .ok (.iload_n 0, 1) := by decide +kernel
theorem dJ9_max_7cf53_1 : decode cJ9_max_7cf53 1 = .ok (.iload_n 1, 1) := by decide +kernel
theorem dJ9_max_7cf53_2 : decode cJ9_max_7cf53 2 = .ok (.if_icmp .lt 7, 3) := by decide +kernel
theorem dJ9_max_7cf53_5 : decode cJ9_max_7cf53 5 = .ok (.iload_n 0, 1) := by decide +kernel
theorem dJ9_max_7cf53_6 : decode cJ9_max_7cf53 6 = .ok (.goto 4, 3) := by decide +kernel
theorem dJ9_max_7cf53_9 : decode cJ9_max_7cf53 9 = .ok (.iload_n 1, 1) := by decide +kernel
theorem dJ9_max_7cf53_10 : decode cJ9_max_7cf53 10 = .ok (.ireturn, 1) := by decide +kernel
theorem dJ9_min_7cf53_0 : decode cJ9_min_7cf53 0 = .ok (.iload_n 0, 1) := by decide +kernel
theorem dJ9_min_7cf53_1 : decode cJ9_min_7cf53 1 = .ok (.iload_n 1, 1) := by decide +kernel
theorem dJ9_min_7cf53_2 : decode cJ9_min_7cf53 2 = .ok (.if_icmp .gt 7, 3) := by decide +kernel
theorem dJ9_min_7cf53_5 : decode cJ9_min_7cf53 5 = .ok (.iload_n 0, 1) := by decide +kernel
theorem dJ9_min_7cf53_6 : decode cJ9_min_7cf53 6 = .ok (.goto 4, 3) := by decide +kernel
theorem dJ9_min_7cf53_9 : decode cJ9_min_7cf53 9 = .ok (.iload_n 1, 1) := by decide +kernel
theorem dJ9_min_7cf53_10 : decode cJ9_min_7cf53 10 = .ok (.ireturn, 1) := by decide +kernel
set_option maxRecDepth 20000 in
theorem ggL_addPerson_X0_addPerson : GoodIn wsL_addPerson wsX0_addPerson := goodIn_ca (goodIn_ca (goodIn_r _ [7, 8, 9, 10, 11, 12, 13, 6, 14, 15, 16, 17, 18, 19, 20, 21, 22, 23, 24, 25, 26, 27, 28] (by decide +kernel) (by decide +kernel)) (goodIn_sub (fun _ h => List.mem_cons_of_mem _ (List.mem_append_left _ (List.mem_append_right _ h))) (by decide +kernel))) (goodIn_sub (fun _ h => List.mem_cons_of_mem _ (List.mem_append_right _ h)) (by decide +kernel))
set_option maxRecDepth 20000 in
theorem gL_addPerson_X0_addPerson : GoodIn wsL_addPerson (wsV RL 7 RX0 yX0_addPerson wsX0_addPerson) := goodIn_app (goodIn_of _ (by decide +kernel)) ggL_addPerson_X0_addPerson
theorem dL_addPerson_0 : decode cL_addPerson 0 = .ok (.aload_n 2, 1) := by decide +kernel
theorem dL_addPerson_1 : decode cL_addPerson 1 = .ok (.iconst 0, 1) := by decide +kernel
theorem dL_addPerson_2 : decode cL_addPerson 2 = .ok (.aload_n 0, 1) := by decide +kernel
theorem dL_addPerson_3 : decode cL_addPerson 3 = .ok (.iload_n 1, 1) := by decide +kernel
theorem dL_addPerson_4 : decode cL_addPerson 4 = .ok (.invokevirtual 7, 3) := by decide +kernel
theorem dL_addPerson_7 : decode cL_addPerson 7 = .ok (.i2l, 1) := by decide +kernel
theorem dL_addPerson_8 : decode cL_addPerson 8 = .ok (.lastore, 1) := by decide +kernel
theorem dL_addPerson_9 : decode cL_addPerson 9 = .ok (.goto 9, 3) := by decide +kernel
theorem dL_addPerson_12 : decode cL_addPerson 12 = .ok (.astore_n 3, 1) := by decide +kernel
theorem dL_addPerson_13 : decode cL_addPerson 13 = .ok (.iconst 1, 1) := by decide +kernel
theorem dL_addPerson_14 : decode cL_addPerson 14 = .ok (.ireturn, 1) := by decide +kernel
theorem dL_addPerson_15 : decode cL_addPerson 15 = .ok (.astore_n 3, 1) := by decide +kernel
theorem dL_addPerson_16 : decode cL_addPerson 16 = .ok (.iconst 2, 1) := by decide +kernel
theorem dL_addPerson_17 : decode cL_addPerson 17 = .ok (.ireturn, 1) := by decide +kernel
theorem dL_addPerson_18 : decode cL_addPerson 18 = .ok (.iconst 0, 1) := by decide +kernel
theorem dL_addPerson_19 : decode cL_addPerson 19 = .ok (.ireturn, 1) := by decide +kernel
set_option maxRecDepth 20000 in
theorem ggL_enter_X0_enter : GoodIn wsL_enter wsX0_enter := goodIn_ca (goodIn_r _ [6, 7, 8, 9, 10, 5, 11, 12, 13, 14, 15, 16, 17, 18, 19, 20, 21, 22, 23, 24, 25, 26] (by decide +kernel) (by decide +kernel)) (goodIn_sub (fun _ h => List.mem_cons_of_mem _ (List.mem_append_right _ h)) (by decide +kernel))
set_option maxRecDepth 20000 in
theorem gL_enter_X0_enter : GoodIn wsL_enter (wsV RL 17 RX0 yX0_enter wsX0_enter) := goodIn_app (goodIn_of _ (by decide +kernel)) ggL_enter_X0_enter
theorem dL_enter_0 : decode cL_enter 0 = .ok (.aload_n 2, 1) := by decide +kernel
theorem dL_enter_1 : decode cL_enter 1 = .ok (.iconst 0, 1) := by decide +kernel
theorem dL_enter_2 : decode cL_enter 2 = .ok (.aload_n 0, 1) := by decide +kernel
theorem dL_enter_3 : decode cL_enter 3 = .ok (.iload_n 1, 1) := by decide +kernel
theorem dL_enter_4 : decode cL_enter 4 = .ok (.invokevirtual 17, 3) := by decide +kernel
theorem dL_enter_7 : decode cL_enter 7 = .ok (.ifCond .eq 7, 3) := by decide +kernel
theorem dL_enter_10 : decode cL_enter 10 = .ok (.lconst 1, 1) := by decide +kernel
theorem dL_enter_11 : decode cL_enter 11 = .ok (.goto 4, 3) := by decide +kernel
theorem dL_enter_14 : decode cL_enter 14 = .ok (.lconst 0, 1) := by decide +kernel
theorem dL_enter_15 : decode cL_enter 15 = .ok (.lastore, 1) := by decide +kernel
theorem dL_enter_16 : decode cL_enter 16 = .ok (.goto 6, 3) := by decide +kernel
theorem dL_enter_19 : decode cL_enter 19 = .ok (.astore_n 3, 1) := by decide +kernel
theorem dL_enter_20 : decode cL_enter 20 = .ok (.iconst 1, 1) := by decide +kernel
theorem dL_enter_21 : decode cL_enter 21 = .ok (.ireturn, 1) := by decide +kernel
theorem dL_enter_22 : decode cL_enter 22 = .ok (.iconst 0, 1) := by decide +kernel
theorem dL_enter_23 : decode cL_enter 23 = .ok (.ireturn, 1) := by decide +kernel
set_option maxRecDepth 20000 in
theorem ggL_slight_X0_slight : GoodIn wsL_slight wsX0_slight := goodIn_ca (goodIn_ca (goodIn_ca (goodIn_r _ [8, 9, 10, 11, 12, 13, 14, 15, 16, 17, 18, 19, 7, 20, 21, 22, 23, 24, 25, 26, 27, 28, 29, 30, 31, 32, 33, 34, 35] (by decide +kernel) (by decide +kernel)) (goodIn_sub (fun _ h => List.mem_cons_of_mem _ (List.mem_append_left _ (List.mem_append_left _ (List.mem_append_right _ h)))) (by decide +kernel))) (goodIn_sub (fun _ h => List.mem_cons_of_mem _ (List.mem_append_left _ (List.mem_append_right _ h))) (by decide +kernel))) (goodIn_sub (fun _ h => List.mem_cons_of_mem _ (List.mem_append_right _ h)) (by decide +kernel))
set_option maxRecDepth 20000 in
theorem gL_slight_X0_slight : GoodIn wsL_slight (wsV RL 23 RX0 yX0_slight wsX0_slight) := goodIn_app (goodIn_of _ (by decide +kernel)) ggL_slight_X0_slight
theorem dL_slight_0 : decode cL_slight 0 = .ok (.aload 4, 2) := by decide +kernel
theorem dL_slight_2 : decode cL_slight 2 = .ok (.iconst 0, 1) := by decide +kernel
theorem dL_slight_3 : decode cL_slight 3 = .ok (.aload_n 0, 1) := by decide +kernel
theorem dL_slight_4 : decode cL_slight 4 = .ok (.iload_n 1, 1) := by decide +kernel
theorem dL_slight_5 : decode cL_slight 5 = .ok (.iload_n 2, 1) := by decide +kernel
theorem dL_slight_6 : decode cL_slight 6 = .ok (.iload_n 3, 1) := by decide +kernel
theorem dL_slight_7 : decode cL_slight 7 = .ok (.invokevirtual 23, 3) := by decide +kernel
theorem dL_slight_10 : decode cL_slight 10 = .ok (.i2l, 1) := by decide +kernel
theorem dL_slight_11 : decode cL_slight 11 = .ok (.lastore, 1) := by decide +kernel
theorem dL_slight_12 : decode cL_slight 12 = .ok (.goto 15, 3) := by decide +kernel
theorem dL_slight_15 : decode cL_slight 15 = .ok (.astore 5, 2) := by decide +kernel
theorem dL_slight_17 : decode cL_slight 17 = .ok (.iconst 1, 1) := by decide +kernel
theorem dL_slight_18 : decode cL_slight 18 = .ok (.ireturn, 1) := by decide +kernel
theorem dL_slight_19 : decode cL_slight 19 = .ok (.astore 5, 2) := by decide +kernel
theorem dL_slight_21 : decode cL_slight 21 = .ok (.iconst 2, 1) := by decide +kernel
theorem dL_slight_22 : decode cL_slight 22 = .ok (.ireturn, 1) := by decide +kernel
theorem dL_slight_23 : decode cL_slight 23 = .ok (.astore 5, 2) := by decide +kernel
theorem dL_slight_25 : decode cL_slight 25 = .ok (.iconst 3, 1) := by decide +kernel
theorem dL_slight_26 : decode cL_slight 26 = .ok (.ireturn, 1) := by decide +kernel
theorem dL_slight_27 : decode cL_slight 27 = .ok (.iconst 0, 1) := by decide +kernel
theorem dL_slight_28 : decode cL_slight 28 = .ok (.ireturn, 1) := by decide +kernel
set_option maxRecDepth 20000 in
theorem ggL_mention_X0_mention : GoodIn wsL_mention wsX0_mention := goodIn_ca (goodIn_ca (goodIn_r _ [7, 8, 9, 10, 11, 6, 12, 13, 14, 15, 16, 17, 18, 19, 20, 21, 22, 23, 24, 25, 26, 27, 28, 29, 30, 31, 32, 33, 34, 35, 36, 37, 38, 39, 40, 41, 42, 43, 44, 45, 46, 47] (by decide +kernel) (by decide +kernel)) (goodIn_sub (fun _ h => List.mem_cons_of_mem _ (List.mem_append_left _ (List.mem_append_right _ h))) (by decide +kernel))) (goodIn_sub (fun _ h => List.mem_cons_of_mem _ (List.mem_append_right _ h)) (by decide +kernel))
set_option maxRecDepth 20000 in
theorem gL_mention_X0_mention : GoodIn wsL_mention (wsV RL 27 RX0 yX0_mention wsX0_mention) := goodIn_app (goodIn_of _ (by decide +kernel)) ggL_mention_X0_mention
theorem dL_mention_0 : decode cL_mention 0 = .ok (.aload_n 2, 1) := by decide +kernel
theorem dL_mention_1 : decode cL_mention 1 = .ok (.iconst 0, 1) := by decide +kernel
theorem dL_mention_2 : decode cL_mention 2 = .ok (.aload_n 0, 1) := by decide +kernel
theorem dL_mention_3 : decode cL_mention 3 = .ok (.iload_n 1, 1) := by decide +kernel
theorem dL_mention_4 : decode cL_mention 4 = .ok (.invokevirtual 27, 3) := by decide +kernel
theorem dL_mention_7 : decode cL_mention 7 = .ok (.i2l, 1) := by decide +kernel
theorem dL_mention_8 : decode cL_mention 8 = .ok (.lastore, 1) := by decide +kernel
theorem dL_mention_9 : decode cL_mention 9 = .ok (.goto 9, 3) := by decide +kernel
theorem dL_mention_12 : decode cL_mention 12 = .ok (.astore_n 3, 1) := by decide +kernel
theorem dL_mention_13 : decode cL_mention 13 = .ok (.iconst 1, 1) := by decide +kernel
theorem dL_mention_14 : decode cL_mention 14 = .ok (.ireturn, 1) := by decide +kernel
theorem dL_mention_15 : decode cL_mention 15 = .ok (.astore_n 3, 1) := by decide +kernel
theorem dL_mention_16 : decode cL_mention 16 = .ok (.iconst 2, 1) := by decide +kernel
theorem dL_mention_17 : decode cL_mention 17 = .ok (.ireturn, 1) := by decide +kernel
theorem dL_mention_18 : decode cL_mention 18 = .ok (.iconst 0, 1) := by decide +kernel
theorem dL_mention_19 : decode cL_mention 19 = .ok (.ireturn, 1) := by decide +kernel
set_option maxRecDepth 20000 in
theorem ggL_apologize_X0_apologize : GoodIn wsL_apologize wsX0_apologize := goodIn_ca (goodIn_ca (goodIn_ca (goodIn_r _ [8, 9, 10, 11, 12, 13, 7, 14, 15, 16, 17, 18, 19, 20, 21, 22, 23, 24, 25, 26, 27, 28, 29, 30, 31, 32, 33, 34, 35, 36, 37, 38, 39, 40, 41, 42, 43, 44, 45, 46, 47, 48, 49, 50, 51, 52, 53, 54, 55, 56, 57, 58, 59, 60, 61, 62, 63, 64, 65, 66, 67, 68, 69, 70, 71, 72, 73, 74, 75, 76, 77, 78, 79, 80, 81, 82, 83, 84, 85, 86, 87, 88, 89, 90, 91, 92, 93, 94, 95, 96, 97, 98] (by decide +kernel) (by decide +kernel)) (goodIn_sub (fun _ h => List.mem_cons_of_mem _ (List.mem_append_left _ (List.mem_append_left _ (List.mem_append_right _ h)))) (by decide +kernel))) (goodIn_sub (fun _ h => List.mem_cons_of_mem _ (List.mem_append_left _ (List.mem_append_right _ h))) (by decide +kernel))) (goodIn_sub (fun _ h => List.mem_cons_of_mem _ (List.mem_append_right _ h)) (by decide +kernel))
set_option maxRecDepth 20000 in
theorem gL_apologize_X0_apologize : GoodIn wsL_apologize (wsV RL 30 RX0 yX0_apologize wsX0_apologize) := goodIn_app (goodIn_of _ (by decide +kernel)) ggL_apologize_X0_apologize
theorem dL_apologize_0 : decode cL_apologize 0 = .ok (.aload_n 3, 1) := by decide +kernel
theorem dL_apologize_1 : decode cL_apologize 1 = .ok (.iconst 0, 1) := by decide +kernel
theorem dL_apologize_2 : decode cL_apologize 2 = .ok (.aload_n 0, 1) := by decide +kernel
theorem dL_apologize_3 : decode cL_apologize 3 = .ok (.iload_n 1, 1) := by decide +kernel
theorem dL_apologize_4 : decode cL_apologize 4 = .ok (.iload_n 2, 1) := by decide +kernel
theorem dL_apologize_5 : decode cL_apologize 5 = .ok (.invokevirtual 30, 3) := by decide +kernel
theorem dL_apologize_8 : decode cL_apologize 8 = .ok (.i2l, 1) := by decide +kernel
theorem dL_apologize_9 : decode cL_apologize 9 = .ok (.lastore, 1) := by decide +kernel
theorem dL_apologize_10 : decode cL_apologize 10 = .ok (.goto 15, 3) := by decide +kernel
theorem dL_apologize_13 : decode cL_apologize 13 = .ok (.astore 4, 2) := by decide +kernel
theorem dL_apologize_15 : decode cL_apologize 15 = .ok (.iconst 1, 1) := by decide +kernel
theorem dL_apologize_16 : decode cL_apologize 16 = .ok (.ireturn, 1) := by decide +kernel
theorem dL_apologize_17 : decode cL_apologize 17 = .ok (.astore 4, 2) := by decide +kernel
theorem dL_apologize_19 : decode cL_apologize 19 = .ok (.iconst 2, 1) := by decide +kernel
theorem dL_apologize_20 : decode cL_apologize 20 = .ok (.ireturn, 1) := by decide +kernel
theorem dL_apologize_21 : decode cL_apologize 21 = .ok (.astore 4, 2) := by decide +kernel
theorem dL_apologize_23 : decode cL_apologize 23 = .ok (.iconst 3, 1) := by decide +kernel
theorem dL_apologize_24 : decode cL_apologize 24 = .ok (.ireturn, 1) := by decide +kernel
theorem dL_apologize_25 : decode cL_apologize 25 = .ok (.iconst 0, 1) := by decide +kernel
theorem dL_apologize_26 : decode cL_apologize 26 = .ok (.ireturn, 1) := by decide +kernel
set_option maxRecDepth 20000 in
theorem ggL_setOff_X0_setOff : GoodIn wsL_setOff wsX0_setOff := goodIn_ca (goodIn_ca (goodIn_r _ [7, 8, 9, 10, 11, 12, 13, 14, 15, 16, 17, 6, 18, 19, 20, 21, 22, 23, 24, 25, 26, 27, 28, 29, 30, 31, 32, 33, 34, 35, 36, 37, 38, 39, 40, 41, 42, 43, 44, 45, 46, 47, 48, 49, 50, 51, 52, 53, 54, 55, 56, 57, 58, 59, 60, 61, 62, 63, 64] (by decide +kernel) (by decide +kernel)) (goodIn_sub (fun _ h => List.mem_cons_of_mem _ (List.mem_append_left _ (List.mem_append_right _ h))) (by decide +kernel))) (goodIn_sub (fun _ h => List.mem_cons_of_mem _ (List.mem_append_right _ h)) (by decide +kernel))
set_option maxRecDepth 20000 in
theorem gL_setOff_X0_setOff : GoodIn wsL_setOff (wsV RL 34 RX0 yX0_setOff wsX0_setOff) := goodIn_app (goodIn_of _ (by decide +kernel)) ggL_setOff_X0_setOff
theorem dL_setOff_0 : decode cL_setOff 0 = .ok (.aload_n 3, 1) := by decide +kernel
theorem dL_setOff_1 : decode cL_setOff 1 = .ok (.iconst 0, 1) := by decide +kernel
theorem dL_setOff_2 : decode cL_setOff 2 = .ok (.aload_n 0, 1) := by decide +kernel
theorem dL_setOff_3 : decode cL_setOff 3 = .ok (.iload_n 1, 1) := by decide +kernel
theorem dL_setOff_4 : decode cL_setOff 4 = .ok (.iload_n 2, 1) := by decide +kernel
theorem dL_setOff_5 : decode cL_setOff 5 = .ok (.invokevirtual 34, 3) := by decide +kernel
theorem dL_setOff_8 : decode cL_setOff 8 = .ok (.i2l, 1) := by decide +kernel
theorem dL_setOff_9 : decode cL_setOff 9 = .ok (.lastore, 1) := by decide +kernel
theorem dL_setOff_10 : decode cL_setOff 10 = .ok (.goto 11, 3) := by decide +kernel
theorem dL_setOff_13 : decode cL_setOff 13 = .ok (.astore 4, 2) := by decide +kernel
theorem dL_setOff_15 : decode cL_setOff 15 = .ok (.iconst 1, 1) := by decide +kernel
theorem dL_setOff_16 : decode cL_setOff 16 = .ok (.ireturn, 1) := by decide +kernel
theorem dL_setOff_17 : decode cL_setOff 17 = .ok (.astore 4, 2) := by decide +kernel
theorem dL_setOff_19 : decode cL_setOff 19 = .ok (.iconst 2, 1) := by decide +kernel
theorem dL_setOff_20 : decode cL_setOff 20 = .ok (.ireturn, 1) := by decide +kernel
theorem dL_setOff_21 : decode cL_setOff 21 = .ok (.iconst 0, 1) := by decide +kernel
theorem dL_setOff_22 : decode cL_setOff 22 = .ok (.ireturn, 1) := by decide +kernel
set_option maxRecDepth 20000 in
theorem ggL_setPride_X0_setPride : GoodIn wsL_setPride wsX0_setPride := goodIn_ca (goodIn_ca (goodIn_r _ [7, 8, 9, 10, 11, 6, 12, 13, 14, 15, 16, 17, 18, 19, 20, 21, 22, 23, 24, 25, 26, 27, 28, 29, 30, 31, 32] (by decide +kernel) (by decide +kernel)) (goodIn_sub (fun _ h => List.mem_cons_of_mem _ (List.mem_append_left _ (List.mem_append_right _ h))) (by decide +kernel))) (goodIn_sub (fun _ h => List.mem_cons_of_mem _ (List.mem_append_right _ h)) (by decide +kernel))
set_option maxRecDepth 20000 in
theorem gL_setPride_X0_setPride : GoodIn wsL_setPride (wsV RL 37 RX0 yX0_setPride wsX0_setPride) := goodIn_app (goodIn_of _ (by decide +kernel)) ggL_setPride_X0_setPride
theorem dL_setPride_0 : decode cL_setPride 0 = .ok (.aload_n 3, 1) := by decide +kernel
theorem dL_setPride_1 : decode cL_setPride 1 = .ok (.iconst 0, 1) := by decide +kernel
theorem dL_setPride_2 : decode cL_setPride 2 = .ok (.aload_n 0, 1) := by decide +kernel
theorem dL_setPride_3 : decode cL_setPride 3 = .ok (.iload_n 1, 1) := by decide +kernel
theorem dL_setPride_4 : decode cL_setPride 4 = .ok (.iload_n 2, 1) := by decide +kernel
theorem dL_setPride_5 : decode cL_setPride 5 = .ok (.invokevirtual 37, 3) := by decide +kernel
theorem dL_setPride_8 : decode cL_setPride 8 = .ok (.i2l, 1) := by decide +kernel
theorem dL_setPride_9 : decode cL_setPride 9 = .ok (.lastore, 1) := by decide +kernel
theorem dL_setPride_10 : decode cL_setPride 10 = .ok (.goto 11, 3) := by decide +kernel
theorem dL_setPride_13 : decode cL_setPride 13 = .ok (.astore 4, 2) := by decide +kernel
theorem dL_setPride_15 : decode cL_setPride 15 = .ok (.iconst 1, 1) := by decide +kernel
theorem dL_setPride_16 : decode cL_setPride 16 = .ok (.ireturn, 1) := by decide +kernel
theorem dL_setPride_17 : decode cL_setPride 17 = .ok (.astore 4, 2) := by decide +kernel
theorem dL_setPride_19 : decode cL_setPride 19 = .ok (.iconst 2, 1) := by decide +kernel
theorem dL_setPride_20 : decode cL_setPride 20 = .ok (.ireturn, 1) := by decide +kernel
theorem dL_setPride_21 : decode cL_setPride 21 = .ok (.iconst 0, 1) := by decide +kernel
theorem dL_setPride_22 : decode cL_setPride 22 = .ok (.ireturn, 1) := by decide +kernel
set_option maxRecDepth 20000 in
theorem ggL_pass_X0_pass : GoodIn wsL_pass wsX0_pass := goodIn_ca (goodIn_ca (goodIn_r _ [6, 7, 8, 5, 9, 10, 11, 12, 13, 14, 15, 16, 17, 18, 19, 20, 21, 22, 23, 24, 25, 26, 27, 28, 29, 30, 31, 32, 33, 34, 35, 36, 37, 38, 39, 40, 41, 42, 43, 44, 45, 46, 47, 48, 49, 50, 51, 52, 53, 54, 55, 56, 57] (by decide +kernel) (by decide +kernel)) (goodIn_sub (fun _ h => List.mem_cons_of_mem _ (List.mem_append_left _ (List.mem_append_right _ h))) (by decide +kernel))) (goodIn_sub (fun _ h => List.mem_cons_of_mem _ (List.mem_append_right _ h)) (by decide +kernel))
set_option maxRecDepth 20000 in
theorem gL_pass_X0_pass : GoodIn wsL_pass (wsV RL 40 RX0 yX0_pass wsX0_pass) := goodIn_app (goodIn_of _ (by decide +kernel)) ggL_pass_X0_pass
theorem dL_pass_0 : decode cL_pass 0 = .ok (.aload_n 2, 1) := by decide +kernel
theorem dL_pass_1 : decode cL_pass 1 = .ok (.iconst 0, 1) := by decide +kernel
theorem dL_pass_2 : decode cL_pass 2 = .ok (.aload_n 0, 1) := by decide +kernel
theorem dL_pass_3 : decode cL_pass 3 = .ok (.iload_n 1, 1) := by decide +kernel
theorem dL_pass_4 : decode cL_pass 4 = .ok (.invokevirtual 40, 3) := by decide +kernel
theorem dL_pass_7 : decode cL_pass 7 = .ok (.i2l, 1) := by decide +kernel
theorem dL_pass_8 : decode cL_pass 8 = .ok (.lastore, 1) := by decide +kernel
theorem dL_pass_9 : decode cL_pass 9 = .ok (.goto 6, 3) := by decide +kernel
theorem dL_pass_12 : decode cL_pass 12 = .ok (.astore_n 3, 1) := by decide +kernel
theorem dL_pass_13 : decode cL_pass 13 = .ok (.iconst 1, 1) := by decide +kernel
theorem dL_pass_14 : decode cL_pass 14 = .ok (.ireturn, 1) := by decide +kernel
theorem dL_pass_15 : decode cL_pass 15 = .ok (.iconst 0, 1) := by decide +kernel
theorem dL_pass_16 : decode cL_pass 16 = .ok (.ireturn, 1) := by decide +kernel
set_option maxRecDepth 20000 in
theorem ggL_isInHall_X0_isInHall : GoodIn wsL_isInHall wsX0_isInHall := goodIn_ca (goodIn_r _ [6, 7, 8, 9, 10, 5, 11, 12, 13, 14, 15, 16, 17, 18, 19, 20, 21, 22, 23, 24, 25, 26] (by decide +kernel) (by decide +kernel)) (goodIn_sub (fun _ h => List.mem_cons_of_mem _ (List.mem_append_right _ h)) (by decide +kernel))
set_option maxRecDepth 20000 in
theorem gL_isInHall_X0_isInHall : GoodIn wsL_isInHall (wsV RL 43 RX0 yX0_isInHall wsX0_isInHall) := goodIn_app (goodIn_of _ (by decide +kernel)) ggL_isInHall_X0_isInHall
theorem dL_isInHall_0 : decode cL_isInHall 0 = .ok (.aload_n 2, 1) := by decide +kernel
theorem dL_isInHall_1 : decode cL_isInHall 1 = .ok (.iconst 0, 1) := by decide +kernel
theorem dL_isInHall_2 : decode cL_isInHall 2 = .ok (.aload_n 0, 1) := by decide +kernel
theorem dL_isInHall_3 : decode cL_isInHall 3 = .ok (.iload_n 1, 1) := by decide +kernel
theorem dL_isInHall_4 : decode cL_isInHall 4 = .ok (.invokevirtual 43, 3) := by decide +kernel
theorem dL_isInHall_7 : decode cL_isInHall 7 = .ok (.ifCond .eq 7, 3) := by decide +kernel
theorem dL_isInHall_10 : decode cL_isInHall 10 = .ok (.lconst 1, 1) := by decide +kernel
theorem dL_isInHall_11 : decode cL_isInHall 11 = .ok (.goto 4, 3) := by decide +kernel
theorem dL_isInHall_14 : decode cL_isInHall 14 = .ok (.lconst 0, 1) := by decide +kernel
theorem dL_isInHall_15 : decode cL_isInHall 15 = .ok (.lastore, 1) := by decide +kernel
theorem dL_isInHall_16 : decode cL_isInHall 16 = .ok (.goto 6, 3) := by decide +kernel
theorem dL_isInHall_19 : decode cL_isInHall 19 = .ok (.astore_n 3, 1) := by decide +kernel
theorem dL_isInHall_20 : decode cL_isInHall 20 = .ok (.iconst 1, 1) := by decide +kernel
theorem dL_isInHall_21 : decode cL_isInHall 21 = .ok (.ireturn, 1) := by decide +kernel
theorem dL_isInHall_22 : decode cL_isInHall 22 = .ok (.iconst 0, 1) := by decide +kernel
theorem dL_isInHall_23 : decode cL_isInHall 23 = .ok (.ireturn, 1) := by decide +kernel
set_option maxRecDepth 20000 in
theorem ggL_prideOf_X0_prideOf : GoodIn wsL_prideOf wsX0_prideOf := goodIn_ca (goodIn_r _ [6, 7, 8, 9, 10, 5, 11, 12, 13, 14, 15, 16, 17, 18, 19, 20, 21, 22, 23, 24, 25, 26] (by decide +kernel) (by decide +kernel)) (goodIn_sub (fun _ h => List.mem_cons_of_mem _ (List.mem_append_right _ h)) (by decide +kernel))
set_option maxRecDepth 20000 in
theorem gL_prideOf_X0_prideOf : GoodIn wsL_prideOf (wsV RL 46 RX0 yX0_prideOf wsX0_prideOf) := goodIn_app (goodIn_of _ (by decide +kernel)) ggL_prideOf_X0_prideOf
theorem dL_prideOf_0 : decode cL_prideOf 0 = .ok (.aload_n 2, 1) := by decide +kernel
theorem dL_prideOf_1 : decode cL_prideOf 1 = .ok (.iconst 0, 1) := by decide +kernel
theorem dL_prideOf_2 : decode cL_prideOf 2 = .ok (.aload_n 0, 1) := by decide +kernel
theorem dL_prideOf_3 : decode cL_prideOf 3 = .ok (.iload_n 1, 1) := by decide +kernel
theorem dL_prideOf_4 : decode cL_prideOf 4 = .ok (.invokevirtual 46, 3) := by decide +kernel
theorem dL_prideOf_7 : decode cL_prideOf 7 = .ok (.i2l, 1) := by decide +kernel
theorem dL_prideOf_8 : decode cL_prideOf 8 = .ok (.lastore, 1) := by decide +kernel
theorem dL_prideOf_9 : decode cL_prideOf 9 = .ok (.goto 6, 3) := by decide +kernel
theorem dL_prideOf_12 : decode cL_prideOf 12 = .ok (.astore_n 3, 1) := by decide +kernel
theorem dL_prideOf_13 : decode cL_prideOf 13 = .ok (.iconst 1, 1) := by decide +kernel
theorem dL_prideOf_14 : decode cL_prideOf 14 = .ok (.ireturn, 1) := by decide +kernel
theorem dL_prideOf_15 : decode cL_prideOf 15 = .ok (.iconst 0, 1) := by decide +kernel
theorem dL_prideOf_16 : decode cL_prideOf 16 = .ok (.ireturn, 1) := by decide +kernel
set_option maxRecDepth 20000 in
theorem ggL_borneBy_X0_borneBy : GoodIn wsL_borneBy wsX0_borneBy := goodIn_ca (goodIn_r _ [6, 7, 8, 9, 10, 11, 12, 13, 5, 14, 15, 16, 17, 18, 19, 20, 21, 22, 23, 24, 25, 26, 27, 28, 29] (by decide +kernel) (by decide +kernel)) (goodIn_sub (fun _ h => List.mem_cons_of_mem _ (List.mem_append_right _ h)) (by decide +kernel))
set_option maxRecDepth 20000 in
theorem gL_borneBy_X0_borneBy : GoodIn wsL_borneBy (wsV RL 49 RX0 yX0_borneBy wsX0_borneBy) := goodIn_app (goodIn_of _ (by decide +kernel)) ggL_borneBy_X0_borneBy
theorem dL_borneBy_0 : decode cL_borneBy 0 = .ok (.aload_n 2, 1) := by decide +kernel
theorem dL_borneBy_1 : decode cL_borneBy 1 = .ok (.iconst 0, 1) := by decide +kernel
theorem dL_borneBy_2 : decode cL_borneBy 2 = .ok (.aload_n 0, 1) := by decide +kernel
theorem dL_borneBy_3 : decode cL_borneBy 3 = .ok (.iload_n 1, 1) := by decide +kernel
theorem dL_borneBy_4 : decode cL_borneBy 4 = .ok (.invokevirtual 49, 3) := by decide +kernel
theorem dL_borneBy_7 : decode cL_borneBy 7 = .ok (.i2l, 1) := by decide +kernel
theorem dL_borneBy_8 : decode cL_borneBy 8 = .ok (.lastore, 1) := by decide +kernel
theorem dL_borneBy_9 : decode cL_borneBy 9 = .ok (.goto 6, 3) := by decide +kernel
theorem dL_borneBy_12 : decode cL_borneBy 12 = .ok (.astore_n 3, 1) := by decide +kernel
theorem dL_borneBy_13 : decode cL_borneBy 13 = .ok (.iconst 1, 1) := by decide +kernel
theorem dL_borneBy_14 : decode cL_borneBy 14 = .ok (.ireturn, 1) := by decide +kernel
theorem dL_borneBy_15 : decode cL_borneBy 15 = .ok (.iconst 0, 1) := by decide +kernel
theorem dL_borneBy_16 : decode cL_borneBy 16 = .ok (.ireturn, 1) := by decide +kernel
set_option maxRecDepth 20000 in
theorem ggL_owedBy_X0_owedBy : GoodIn wsL_owedBy wsX0_owedBy := goodIn_ca (goodIn_r _ [6, 7, 8, 9, 10, 11, 12, 13, 5, 14, 15, 16, 17, 18, 19, 20, 21, 22, 23, 24, 25, 26, 27, 28, 29] (by decide +kernel) (by decide +kernel)) (goodIn_sub (fun _ h => List.mem_cons_of_mem _ (List.mem_append_right _ h)) (by decide +kernel))
set_option maxRecDepth 20000 in
theorem gL_owedBy_X0_owedBy : GoodIn wsL_owedBy (wsV RL 52 RX0 yX0_owedBy wsX0_owedBy) := goodIn_app (goodIn_of _ (by decide +kernel)) ggL_owedBy_X0_owedBy
theorem dL_owedBy_0 : decode cL_owedBy 0 = .ok (.aload_n 2, 1) := by decide +kernel
theorem dL_owedBy_1 : decode cL_owedBy 1 = .ok (.iconst 0, 1) := by decide +kernel
theorem dL_owedBy_2 : decode cL_owedBy 2 = .ok (.aload_n 0, 1) := by decide +kernel
theorem dL_owedBy_3 : decode cL_owedBy 3 = .ok (.iload_n 1, 1) := by decide +kernel
theorem dL_owedBy_4 : decode cL_owedBy 4 = .ok (.invokevirtual 52, 3) := by decide +kernel
theorem dL_owedBy_7 : decode cL_owedBy 7 = .ok (.i2l, 1) := by decide +kernel
theorem dL_owedBy_8 : decode cL_owedBy 8 = .ok (.lastore, 1) := by decide +kernel
theorem dL_owedBy_9 : decode cL_owedBy 9 = .ok (.goto 6, 3) := by decide +kernel
theorem dL_owedBy_12 : decode cL_owedBy 12 = .ok (.astore_n 3, 1) := by decide +kernel
theorem dL_owedBy_13 : decode cL_owedBy 13 = .ok (.iconst 1, 1) := by decide +kernel
theorem dL_owedBy_14 : decode cL_owedBy 14 = .ok (.ireturn, 1) := by decide +kernel
theorem dL_owedBy_15 : decode cL_owedBy 15 = .ok (.iconst 0, 1) := by decide +kernel
theorem dL_owedBy_16 : decode cL_owedBy 16 = .ok (.ireturn, 1) := by decide +kernel
set_option maxRecDepth 20000 in
theorem ggL_balance_X0_balance : GoodIn wsL_balance wsX0_balance := goodIn_ca (goodIn_r _ [6, 7, 8, 9, 5, 10, 11, 12, 13, 14, 15, 16, 17, 18, 19, 20, 21, 22, 23, 24, 25, 26, 27, 28, 29, 30, 31, 32, 33, 34] (by decide +kernel) (by decide +kernel)) (goodIn_sub (fun _ h => List.mem_cons_of_mem _ (List.mem_append_right _ h)) (by decide +kernel))
set_option maxRecDepth 20000 in
theorem gL_balance_X0_balance : GoodIn wsL_balance (wsV RL 55 RX0 yX0_balance wsX0_balance) := goodIn_app (goodIn_of _ (by decide +kernel)) ggL_balance_X0_balance
theorem dL_balance_0 : decode cL_balance 0 = .ok (.aload_n 3, 1) := by decide +kernel
theorem dL_balance_1 : decode cL_balance 1 = .ok (.iconst 0, 1) := by decide +kernel
theorem dL_balance_2 : decode cL_balance 2 = .ok (.aload_n 0, 1) := by decide +kernel
theorem dL_balance_3 : decode cL_balance 3 = .ok (.iload_n 1, 1) := by decide +kernel
theorem dL_balance_4 : decode cL_balance 4 = .ok (.iload_n 2, 1) := by decide +kernel
theorem dL_balance_5 : decode cL_balance 5 = .ok (.invokevirtual 55, 3) := by decide +kernel
theorem dL_balance_8 : decode cL_balance 8 = .ok (.i2l, 1) := by decide +kernel
theorem dL_balance_9 : decode cL_balance 9 = .ok (.lastore, 1) := by decide +kernel
theorem dL_balance_10 : decode cL_balance 10 = .ok (.goto 7, 3) := by decide +kernel
theorem dL_balance_13 : decode cL_balance 13 = .ok (.astore 4, 2) := by decide +kernel
theorem dL_balance_15 : decode cL_balance 15 = .ok (.iconst 1, 1) := by decide +kernel
theorem dL_balance_16 : decode cL_balance 16 = .ok (.ireturn, 1) := by decide +kernel
theorem dL_balance_17 : decode cL_balance 17 = .ok (.iconst 0, 1) := by decide +kernel
theorem dL_balance_18 : decode cL_balance 18 = .ok (.ireturn, 1) := by decide +kernel
set_option maxRecDepth 20000 in
theorem ggL_offenderOf_X0_offenderOf : GoodIn wsL_offenderOf wsX0_offenderOf := goodIn_ca (goodIn_r _ [6, 7, 8, 9, 10, 5, 11, 12, 13, 14, 15, 16, 17, 18, 19, 20, 21, 22, 23, 24, 25, 26] (by decide +kernel) (by decide +kernel)) (goodIn_sub (fun _ h => List.mem_cons_of_mem _ (List.mem_append_right _ h)) (by decide +kernel))
set_option maxRecDepth 20000 in
theorem gL_offenderOf_X0_offenderOf : GoodIn wsL_offenderOf (wsV RL 58 RX0 yX0_offenderOf wsX0_offenderOf) := goodIn_app (goodIn_of _ (by decide +kernel)) ggL_offenderOf_X0_offenderOf
theorem dL_offenderOf_0 : decode cL_offenderOf 0 = .ok (.aload_n 2, 1) := by decide +kernel
theorem dL_offenderOf_1 : decode cL_offenderOf 1 = .ok (.iconst 0, 1) := by decide +kernel
theorem dL_offenderOf_2 : decode cL_offenderOf 2 = .ok (.aload_n 0, 1) := by decide +kernel
theorem dL_offenderOf_3 : decode cL_offenderOf 3 = .ok (.iload_n 1, 1) := by decide +kernel
theorem dL_offenderOf_4 : decode cL_offenderOf 4 = .ok (.invokevirtual 58, 3) := by decide +kernel
theorem dL_offenderOf_7 : decode cL_offenderOf 7 = .ok (.i2l, 1) := by decide +kernel
theorem dL_offenderOf_8 : decode cL_offenderOf 8 = .ok (.lastore, 1) := by decide +kernel
theorem dL_offenderOf_9 : decode cL_offenderOf 9 = .ok (.goto 6, 3) := by decide +kernel
theorem dL_offenderOf_12 : decode cL_offenderOf 12 = .ok (.astore_n 3, 1) := by decide +kernel
theorem dL_offenderOf_13 : decode cL_offenderOf 13 = .ok (.iconst 1, 1) := by decide +kernel
theorem dL_offenderOf_14 : decode cL_offenderOf 14 = .ok (.ireturn, 1) := by decide +kernel
theorem dL_offenderOf_15 : decode cL_offenderOf 15 = .ok (.iconst 0, 1) := by decide +kernel
theorem dL_offenderOf_16 : decode cL_offenderOf 16 = .ok (.ireturn, 1) := by decide +kernel
set_option maxRecDepth 20000 in
theorem ggL_offendedOf_X0_offendedOf : GoodIn wsL_offendedOf wsX0_offendedOf := goodIn_ca (goodIn_r _ [6, 7, 8, 9, 10, 5, 11, 12, 13, 14, 15, 16, 17, 18, 19, 20, 21, 22, 23, 24, 25, 26] (by decide +kernel) (by decide +kernel)) (goodIn_sub (fun _ h => List.mem_cons_of_mem _ (List.mem_append_right _ h)) (by decide +kernel))
set_option maxRecDepth 20000 in
theorem gL_offendedOf_X0_offendedOf : GoodIn wsL_offendedOf (wsV RL 61 RX0 yX0_offendedOf wsX0_offendedOf) := goodIn_app (goodIn_of _ (by decide +kernel)) ggL_offendedOf_X0_offendedOf
theorem dL_offendedOf_0 : decode cL_offendedOf 0 = .ok (.aload_n 2, 1) := by decide +kernel
theorem dL_offendedOf_1 : decode cL_offendedOf 1 = .ok (.iconst 0, 1) := by decide +kernel
theorem dL_offendedOf_2 : decode cL_offendedOf 2 = .ok (.aload_n 0, 1) := by decide +kernel
theorem dL_offendedOf_3 : decode cL_offendedOf 3 = .ok (.iload_n 1, 1) := by decide +kernel
theorem dL_offendedOf_4 : decode cL_offendedOf 4 = .ok (.invokevirtual 61, 3) := by decide +kernel
theorem dL_offendedOf_7 : decode cL_offendedOf 7 = .ok (.i2l, 1) := by decide +kernel
theorem dL_offendedOf_8 : decode cL_offendedOf 8 = .ok (.lastore, 1) := by decide +kernel
theorem dL_offendedOf_9 : decode cL_offendedOf 9 = .ok (.goto 6, 3) := by decide +kernel
theorem dL_offendedOf_12 : decode cL_offendedOf 12 = .ok (.astore_n 3, 1) := by decide +kernel
theorem dL_offendedOf_13 : decode cL_offendedOf 13 = .ok (.iconst 1, 1) := by decide +kernel
theorem dL_offendedOf_14 : decode cL_offendedOf 14 = .ok (.ireturn, 1) := by decide +kernel
theorem dL_offendedOf_15 : decode cL_offendedOf 15 = .ok (.iconst 0, 1) := by decide +kernel
theorem dL_offendedOf_16 : decode cL_offendedOf 16 = .ok (.ireturn, 1) := by decide +kernel
set_option maxRecDepth 20000 in
theorem ggL_weightOf_X0_weightOf : GoodIn wsL_weightOf wsX0_weightOf := goodIn_ca (goodIn_r _ [6, 7, 8, 9, 10, 5, 11, 12, 13, 14, 15, 16, 17, 18, 19, 20, 21, 22, 23, 24, 25, 26] (by decide +kernel) (by decide +kernel)) (goodIn_sub (fun _ h => List.mem_cons_of_mem _ (List.mem_append_right _ h)) (by decide +kernel))
set_option maxRecDepth 20000 in
theorem gL_weightOf_X0_weightOf : GoodIn wsL_weightOf (wsV RL 64 RX0 yX0_weightOf wsX0_weightOf) := goodIn_app (goodIn_of _ (by decide +kernel)) ggL_weightOf_X0_weightOf
theorem dL_weightOf_0 : decode cL_weightOf 0 = .ok (.aload_n 2, 1) := by decide +kernel
theorem dL_weightOf_1 : decode cL_weightOf 1 = .ok (.iconst 0, 1) := by decide +kernel
theorem dL_weightOf_2 : decode cL_weightOf 2 = .ok (.aload_n 0, 1) := by decide +kernel
theorem dL_weightOf_3 : decode cL_weightOf 3 = .ok (.iload_n 1, 1) := by decide +kernel
theorem dL_weightOf_4 : decode cL_weightOf 4 = .ok (.invokevirtual 64, 3) := by decide +kernel
theorem dL_weightOf_7 : decode cL_weightOf 7 = .ok (.i2l, 1) := by decide +kernel
theorem dL_weightOf_8 : decode cL_weightOf 8 = .ok (.lastore, 1) := by decide +kernel
theorem dL_weightOf_9 : decode cL_weightOf 9 = .ok (.goto 6, 3) := by decide +kernel
theorem dL_weightOf_12 : decode cL_weightOf 12 = .ok (.astore_n 3, 1) := by decide +kernel
theorem dL_weightOf_13 : decode cL_weightOf 13 = .ok (.iconst 1, 1) := by decide +kernel
theorem dL_weightOf_14 : decode cL_weightOf 14 = .ok (.ireturn, 1) := by decide +kernel
theorem dL_weightOf_15 : decode cL_weightOf 15 = .ok (.iconst 0, 1) := by decide +kernel
theorem dL_weightOf_16 : decode cL_weightOf 16 = .ok (.ireturn, 1) := by decide +kernel
set_option maxRecDepth 20000 in
theorem ggL_stateOf_X0_stateOf : GoodIn wsL_stateOf wsX0_stateOf := goodIn_ca (goodIn_r _ [6, 7, 8, 9, 10, 5, 11, 12, 13, 14, 15, 16, 17, 18, 19, 20, 21, 22, 23, 24, 25, 26] (by decide +kernel) (by decide +kernel)) (goodIn_sub (fun _ h => List.mem_cons_of_mem _ (List.mem_append_right _ h)) (by decide +kernel))
set_option maxRecDepth 20000 in
theorem gL_stateOf_X0_stateOf : GoodIn wsL_stateOf (wsV RL 67 RX0 yX0_stateOf wsX0_stateOf) := goodIn_app (goodIn_of _ (by decide +kernel)) ggL_stateOf_X0_stateOf
theorem dL_stateOf_0 : decode cL_stateOf 0 = .ok (.aload_n 2, 1) := by decide +kernel
theorem dL_stateOf_1 : decode cL_stateOf 1 = .ok (.iconst 0, 1) := by decide +kernel
theorem dL_stateOf_2 : decode cL_stateOf 2 = .ok (.aload_n 0, 1) := by decide +kernel
theorem dL_stateOf_3 : decode cL_stateOf 3 = .ok (.iload_n 1, 1) := by decide +kernel
theorem dL_stateOf_4 : decode cL_stateOf 4 = .ok (.invokevirtual 67, 3) := by decide +kernel
theorem dL_stateOf_7 : decode cL_stateOf 7 = .ok (.i2l, 1) := by decide +kernel
theorem dL_stateOf_8 : decode cL_stateOf 8 = .ok (.lastore, 1) := by decide +kernel
theorem dL_stateOf_9 : decode cL_stateOf 9 = .ok (.goto 6, 3) := by decide +kernel
theorem dL_stateOf_12 : decode cL_stateOf 12 = .ok (.astore_n 3, 1) := by decide +kernel
theorem dL_stateOf_13 : decode cL_stateOf 13 = .ok (.iconst 1, 1) := by decide +kernel
theorem dL_stateOf_14 : decode cL_stateOf 14 = .ok (.ireturn, 1) := by decide +kernel
theorem dL_stateOf_15 : decode cL_stateOf 15 = .ok (.iconst 0, 1) := by decide +kernel
theorem dL_stateOf_16 : decode cL_stateOf 16 = .ok (.ireturn, 1) := by decide +kernel
set_option maxRecDepth 20000 in
theorem ggL_borneFor_X0_borneFor : GoodIn wsL_borneFor wsX0_borneFor := goodIn_ca (goodIn_r _ [6, 7, 8, 9, 10, 5, 11, 12, 13, 14, 15, 16, 17, 18, 19, 20, 21, 22, 23, 24, 25, 26] (by decide +kernel) (by decide +kernel)) (goodIn_sub (fun _ h => List.mem_cons_of_mem _ (List.mem_append_right _ h)) (by decide +kernel))
set_option maxRecDepth 20000 in
theorem gL_borneFor_X0_borneFor : GoodIn wsL_borneFor (wsV RL 70 RX0 yX0_borneFor wsX0_borneFor) := goodIn_app (goodIn_of _ (by decide +kernel)) ggL_borneFor_X0_borneFor
theorem dL_borneFor_0 : decode cL_borneFor 0 = .ok (.aload_n 2, 1) := by decide +kernel
theorem dL_borneFor_1 : decode cL_borneFor 1 = .ok (.iconst 0, 1) := by decide +kernel
theorem dL_borneFor_2 : decode cL_borneFor 2 = .ok (.aload_n 0, 1) := by decide +kernel
theorem dL_borneFor_3 : decode cL_borneFor 3 = .ok (.iload_n 1, 1) := by decide +kernel
theorem dL_borneFor_4 : decode cL_borneFor 4 = .ok (.invokevirtual 70, 3) := by decide +kernel
theorem dL_borneFor_7 : decode cL_borneFor 7 = .ok (.i2l, 1) := by decide +kernel
theorem dL_borneFor_8 : decode cL_borneFor 8 = .ok (.lastore, 1) := by decide +kernel
theorem dL_borneFor_9 : decode cL_borneFor 9 = .ok (.goto 6, 3) := by decide +kernel
theorem dL_borneFor_12 : decode cL_borneFor 12 = .ok (.astore_n 3, 1) := by decide +kernel
theorem dL_borneFor_13 : decode cL_borneFor 13 = .ok (.iconst 1, 1) := by decide +kernel
theorem dL_borneFor_14 : decode cL_borneFor 14 = .ok (.ireturn, 1) := by decide +kernel
theorem dL_borneFor_15 : decode cL_borneFor 15 = .ok (.iconst 0, 1) := by decide +kernel
theorem dL_borneFor_16 : decode cL_borneFor 16 = .ok (.ireturn, 1) := by decide +kernel
set_option maxRecDepth 20000 in
theorem ggL_quietFor_X0_quietFor : GoodIn wsL_quietFor wsX0_quietFor := goodIn_ca (goodIn_r _ [6, 7, 8, 9, 10, 5, 11, 12, 13, 14, 15, 16, 17, 18, 19, 20, 21, 22, 23, 24, 25, 26] (by decide +kernel) (by decide +kernel)) (goodIn_sub (fun _ h => List.mem_cons_of_mem _ (List.mem_append_right _ h)) (by decide +kernel))
set_option maxRecDepth 20000 in
theorem gL_quietFor_X0_quietFor : GoodIn wsL_quietFor (wsV RL 73 RX0 yX0_quietFor wsX0_quietFor) := goodIn_app (goodIn_of _ (by decide +kernel)) ggL_quietFor_X0_quietFor
theorem dL_quietFor_0 : decode cL_quietFor 0 = .ok (.aload_n 2, 1) := by decide +kernel
theorem dL_quietFor_1 : decode cL_quietFor 1 = .ok (.iconst 0, 1) := by decide +kernel
theorem dL_quietFor_2 : decode cL_quietFor 2 = .ok (.aload_n 0, 1) := by decide +kernel
theorem dL_quietFor_3 : decode cL_quietFor 3 = .ok (.iload_n 1, 1) := by decide +kernel
theorem dL_quietFor_4 : decode cL_quietFor 4 = .ok (.invokevirtual 73, 3) := by decide +kernel
theorem dL_quietFor_7 : decode cL_quietFor 7 = .ok (.i2l, 1) := by decide +kernel
theorem dL_quietFor_8 : decode cL_quietFor 8 = .ok (.lastore, 1) := by decide +kernel
theorem dL_quietFor_9 : decode cL_quietFor 9 = .ok (.goto 6, 3) := by decide +kernel
theorem dL_quietFor_12 : decode cL_quietFor 12 = .ok (.astore_n 3, 1) := by decide +kernel
theorem dL_quietFor_13 : decode cL_quietFor 13 = .ok (.iconst 1, 1) := by decide +kernel
theorem dL_quietFor_14 : decode cL_quietFor 14 = .ok (.ireturn, 1) := by decide +kernel
theorem dL_quietFor_15 : decode cL_quietFor 15 = .ok (.iconst 0, 1) := by decide +kernel
theorem dL_quietFor_16 : decode cL_quietFor 16 = .ok (.ireturn, 1) := by decide +kernel
set_option maxRecDepth 20000 in
theorem ggL_witnessesFor_X0_witnessesFor : GoodIn wsL_witnessesFor wsX0_witnessesFor := goodIn_ca (goodIn_r _ [6, 7, 8, 9, 10, 11, 12, 13, 5, 14, 15, 16, 17, 18, 19, 20, 21, 22, 23, 24, 25, 26, 27, 28, 29] (by decide +kernel) (by decide +kernel)) (goodIn_sub (fun _ h => List.mem_cons_of_mem _ (List.mem_append_right _ h)) (by decide +kernel))
set_option maxRecDepth 20000 in
theorem gL_witnessesFor_X0_witnessesFor : GoodIn wsL_witnessesFor (wsV RL 76 RX0 yX0_witnessesFor wsX0_witnessesFor) := goodIn_app (goodIn_of _ (by decide +kernel)) ggL_witnessesFor_X0_witnessesFor
theorem dL_witnessesFor_0 : decode cL_witnessesFor 0 = .ok (.aload_n 2, 1) := by decide +kernel
theorem dL_witnessesFor_1 : decode cL_witnessesFor 1 = .ok (.iconst 0, 1) := by decide +kernel
theorem dL_witnessesFor_2 : decode cL_witnessesFor 2 = .ok (.aload_n 0, 1) := by decide +kernel
theorem dL_witnessesFor_3 : decode cL_witnessesFor 3 = .ok (.iload_n 1, 1) := by decide +kernel
theorem dL_witnessesFor_4 : decode cL_witnessesFor 4 = .ok (.invokevirtual 76, 3) := by decide +kernel
theorem dL_witnessesFor_7 : decode cL_witnessesFor 7 = .ok (.i2l, 1) := by decide +kernel
theorem dL_witnessesFor_8 : decode cL_witnessesFor 8 = .ok (.lastore, 1) := by decide +kernel
theorem dL_witnessesFor_9 : decode cL_witnessesFor 9 = .ok (.goto 6, 3) := by decide +kernel
theorem dL_witnessesFor_12 : decode cL_witnessesFor 12 = .ok (.astore_n 3, 1) := by decide +kernel
theorem dL_witnessesFor_13 : decode cL_witnessesFor 13 = .ok (.iconst 1, 1) := by decide +kernel
theorem dL_witnessesFor_14 : decode cL_witnessesFor 14 = .ok (.ireturn, 1) := by decide +kernel
theorem dL_witnessesFor_15 : decode cL_witnessesFor 15 = .ok (.iconst 0, 1) := by decide +kernel
theorem dL_witnessesFor_16 : decode cL_witnessesFor 16 = .ok (.ireturn, 1) := by decide +kernel
set_option maxRecDepth 20000 in
theorem ggL_inState_X0_inState : GoodIn wsL_inState wsX0_inState := goodIn_ca (goodIn_r _ [6, 7, 8, 9, 10, 11, 12, 13, 14, 15, 16, 17, 18, 19, 20, 21, 22] (by decide +kernel) (by decide +kernel)) (goodIn_sub (fun _ h => List.mem_cons_of_mem _ (List.mem_append_right _ h)) (by decide +kernel))
set_option maxRecDepth 20000 in
theorem gL_inState_X0_inState : GoodIn wsL_inState (wsV RL 79 RX0 yX0_inState wsX0_inState) := goodIn_app (goodIn_of _ (by decide +kernel)) ggL_inState_X0_inState
theorem dL_inState_0 : decode cL_inState 0 = .ok (.aload_n 2, 1) := by decide +kernel
theorem dL_inState_1 : decode cL_inState 1 = .ok (.iconst 0, 1) := by decide +kernel
theorem dL_inState_2 : decode cL_inState 2 = .ok (.aload_n 0, 1) := by decide +kernel
theorem dL_inState_3 : decode cL_inState 3 = .ok (.iload_n 1, 1) := by decide +kernel
theorem dL_inState_4 : decode cL_inState 4 = .ok (.invokevirtual 79, 3) := by decide +kernel
theorem dL_inState_7 : decode cL_inState 7 = .ok (.i2l, 1) := by decide +kernel
theorem dL_inState_8 : decode cL_inState 8 = .ok (.lastore, 1) := by decide +kernel
theorem dL_inState_9 : decode cL_inState 9 = .ok (.goto 6, 3) := by decide +kernel
theorem dL_inState_12 : decode cL_inState 12 = .ok (.astore_n 3, 1) := by decide +kernel
theorem dL_inState_13 : decode cL_inState 13 = .ok (.iconst 1, 1) := by decide +kernel
theorem dL_inState_14 : decode cL_inState 14 = .ok (.ireturn, 1) := by decide +kernel
theorem dL_inState_15 : decode cL_inState 15 = .ok (.iconst 0, 1) := by decide +kernel
theorem dL_inState_16 : decode cL_inState 16 = .ok (.ireturn, 1) := by decide +kernel
set_option maxRecDepth 20000 in
theorem ggL_wordsWanted_X0_wordsWanted : GoodIn wsL_wordsWanted wsX0_wordsWanted := goodIn_ca (goodIn_r _ [6, 7, 8, 9, 10, 11, 12, 13, 14, 15, 5, 16, 17, 18, 19, 20, 21, 22, 23, 24, 25, 26, 27, 28, 29, 30, 31, 32, 33, 34, 35, 36, 37, 38, 39, 40, 41, 42, 43, 44, 45, 46, 47, 48, 49, 50, 51, 52, 53, 54, 55, 56, 57, 58, 59, 60, 61, 62, 63, 64] (by decide +kernel) (by decide +kernel)) (goodIn_sub (fun _ h => List.mem_cons_of_mem _ (List.mem_append_right _ h)) (by decide +kernel))
set_option maxRecDepth 20000 in
theorem gL_wordsWanted_X0_wordsWanted : GoodIn wsL_wordsWanted (wsV RL 82 RX0 yX0_wordsWanted wsX0_wordsWanted) := goodIn_app (goodIn_of _ (by decide +kernel)) ggL_wordsWanted_X0_wordsWanted
theorem dL_wordsWanted_0 : decode cL_wordsWanted 0 = .ok (.aload_n 2, 1) := by decide +kernel
theorem dL_wordsWanted_1 : decode cL_wordsWanted 1 = .ok (.iconst 0, 1) := by decide +kernel
theorem dL_wordsWanted_2 : decode cL_wordsWanted 2 = .ok (.aload_n 0, 1) := by decide +kernel
theorem dL_wordsWanted_3 : decode cL_wordsWanted 3 = .ok (.iload_n 1, 1) := by decide +kernel
theorem dL_wordsWanted_4 : decode cL_wordsWanted 4 = .ok (.invokevirtual 82, 3) := by decide +kernel
theorem dL_wordsWanted_7 : decode cL_wordsWanted 7 = .ok (.i2l, 1) := by decide +kernel
theorem dL_wordsWanted_8 : decode cL_wordsWanted 8 = .ok (.lastore, 1) := by decide +kernel
theorem dL_wordsWanted_9 : decode cL_wordsWanted 9 = .ok (.goto 6, 3) := by decide +kernel
theorem dL_wordsWanted_12 : decode cL_wordsWanted 12 = .ok (.astore_n 3, 1) := by decide +kernel
theorem dL_wordsWanted_13 : decode cL_wordsWanted 13 = .ok (.iconst 1, 1) := by decide +kernel
theorem dL_wordsWanted_14 : decode cL_wordsWanted 14 = .ok (.ireturn, 1) := by decide +kernel
theorem dL_wordsWanted_15 : decode cL_wordsWanted 15 = .ok (.iconst 0, 1) := by decide +kernel
theorem dL_wordsWanted_16 : decode cL_wordsWanted 16 = .ok (.ireturn, 1) := by decide +kernel
set_option maxRecDepth 20000 in
theorem ggL_wouldBeScorned_X0_wouldBeScorned : GoodIn wsL_wouldBeScorned wsX0_wouldBeScorned := goodIn_ca (goodIn_ca (goodIn_r _ [7, 8, 9, 10, 11, 6, 12, 13, 14, 15, 16, 17, 18, 19, 20, 21, 22, 23, 24, 25, 26, 27, 28, 29, 30, 31, 32, 33, 34, 35, 36, 37, 38, 39, 40, 41, 42, 43, 44, 45, 46, 47, 48, 49, 50, 51, 52, 53, 54, 55, 56, 57, 58, 59, 60, 61, 62, 63, 64, 65, 66, 67, 68, 69, 70] (by decide +kernel) (by decide +kernel)) (goodIn_sub (fun _ h => List.mem_cons_of_mem _ (List.mem_append_left _ (List.mem_append_right _ h))) (by decide +kernel))) (goodIn_sub (fun _ h => List.mem_cons_of_mem _ (List.mem_append_right _ h)) (by decide +kernel))
set_option maxRecDepth 20000 in
theorem gL_wouldBeScorned_X0_wouldBeScorned : GoodIn wsL_wouldBeScorned (wsV RL 85 RX0 yX0_wouldBeScorned wsX0_wouldBeScorned) := goodIn_app (goodIn_of _ (by decide +kernel)) ggL_wouldBeScorned_X0_wouldBeScorned
theorem dL_wouldBeScorned_0 : decode cL_wouldBeScorned 0 = .ok (.aload_n 3, 1) := by decide +kernel
theorem dL_wouldBeScorned_1 : decode cL_wouldBeScorned 1 = .ok (.iconst 0, 1) := by decide +kernel
theorem dL_wouldBeScorned_2 : decode cL_wouldBeScorned 2 = .ok (.aload_n 0, 1) := by decide +kernel
theorem dL_wouldBeScorned_3 : decode cL_wouldBeScorned 3 = .ok (.iload_n 1, 1) := by decide +kernel
theorem dL_wouldBeScorned_4 : decode cL_wouldBeScorned 4 = .ok (.iload_n 2, 1) := by decide +kernel
theorem dL_wouldBeScorned_5 : decode cL_wouldBeScorned 5 = .ok (.invokevirtual 85, 3) := by decide +kernel
theorem dL_wouldBeScorned_8 : decode cL_wouldBeScorned 8 = .ok (.ifCond .eq 7, 3) := by decide +kernel
theorem dL_wouldBeScorned_11 : decode cL_wouldBeScorned 11 = .ok (.lconst 1, 1) := by decide +kernel
theorem dL_wouldBeScorned_12 : decode cL_wouldBeScorned 12 = .ok (.goto 4, 3) := by decide +kernel
theorem dL_wouldBeScorned_15 : decode cL_wouldBeScorned 15 = .ok (.lconst 0, 1) := by decide +kernel
theorem dL_wouldBeScorned_16 : decode cL_wouldBeScorned 16 = .ok (.lastore, 1) := by decide +kernel
theorem dL_wouldBeScorned_17 : decode cL_wouldBeScorned 17 = .ok (.goto 11, 3) := by decide +kernel
theorem dL_wouldBeScorned_20 : decode cL_wouldBeScorned 20 = .ok (.astore 4, 2) := by decide +kernel
theorem dL_wouldBeScorned_22 : decode cL_wouldBeScorned 22 = .ok (.iconst 1, 1) := by decide +kernel
theorem dL_wouldBeScorned_23 : decode cL_wouldBeScorned 23 = .ok (.ireturn, 1) := by decide +kernel
theorem dL_wouldBeScorned_24 : decode cL_wouldBeScorned 24 = .ok (.astore 4, 2) := by decide +kernel
theorem dL_wouldBeScorned_26 : decode cL_wouldBeScorned 26 = .ok (.iconst 2, 1) := by decide +kernel
theorem dL_wouldBeScorned_27 : decode cL_wouldBeScorned 27 = .ok (.ireturn, 1) := by decide +kernel
theorem dL_wouldBeScorned_28 : decode cL_wouldBeScorned 28 = .ok (.iconst 0, 1) := by decide +kernel
theorem dL_wouldBeScorned_29 : decode cL_wouldBeScorned 29 = .ok (.ireturn, 1) := by decide +kernel
set_option maxRecDepth 20000 in
theorem ggL_weightIn_X0_weightIn : GoodIn wsL_weightIn wsX0_weightIn := goodIn_ca (goodIn_ca (goodIn_r _ [7, 8, 9, 10, 11, 12, 13, 14, 6, 15, 16, 17, 18, 19, 20, 21, 22, 23, 24, 25, 26, 27, 28, 29, 30, 31, 32, 33, 34, 35, 36, 37, 38, 39, 40, 41, 42, 43, 44, 45] (by decide +kernel) (by decide +kernel)) (goodIn_sub (fun _ h => List.mem_cons_of_mem _ (List.mem_append_left _ (List.mem_append_right _ h))) (by decide +kernel))) (goodIn_sub (fun _ h => List.mem_cons_of_mem _ (List.mem_append_right _ h)) (by decide +kernel))
set_option maxRecDepth 20000 in
theorem gL_weightIn_X0_weightIn : GoodIn wsL_weightIn (wsV RL 89 RX0 yX0_weightIn wsX0_weightIn) := goodIn_app (goodIn_of _ (by decide +kernel)) ggL_weightIn_X0_weightIn
theorem dL_weightIn_0 : decode cL_weightIn 0 = .ok (.aload_n 3, 1) := by decide +kernel
theorem dL_weightIn_1 : decode cL_weightIn 1 = .ok (.iconst 0, 1) := by decide +kernel
theorem dL_weightIn_2 : decode cL_weightIn 2 = .ok (.aload_n 0, 1) := by decide +kernel
theorem dL_weightIn_3 : decode cL_weightIn 3 = .ok (.iload_n 1, 1) := by decide +kernel
theorem dL_weightIn_4 : decode cL_weightIn 4 = .ok (.iload_n 2, 1) := by decide +kernel
theorem dL_weightIn_5 : decode cL_weightIn 5 = .ok (.invokevirtual 89, 3) := by decide +kernel
theorem dL_weightIn_8 : decode cL_weightIn 8 = .ok (.i2l, 1) := by decide +kernel
theorem dL_weightIn_9 : decode cL_weightIn 9 = .ok (.lastore, 1) := by decide +kernel
theorem dL_weightIn_10 : decode cL_weightIn 10 = .ok (.goto 11, 3) := by decide +kernel
theorem dL_weightIn_13 : decode cL_weightIn 13 = .ok (.astore 4, 2) := by decide +kernel
theorem dL_weightIn_15 : decode cL_weightIn 15 = .ok (.iconst 1, 1) := by decide +kernel
theorem dL_weightIn_16 : decode cL_weightIn 16 = .ok (.ireturn, 1) := by decide +kernel
theorem dL_weightIn_17 : decode cL_weightIn 17 = .ok (.astore 4, 2) := by decide +kernel
theorem dL_weightIn_19 : decode cL_weightIn 19 = .ok (.iconst 2, 1) := by decide +kernel
theorem dL_weightIn_20 : decode cL_weightIn 20 = .ok (.ireturn, 1) := by decide +kernel
theorem dL_weightIn_21 : decode cL_weightIn 21 = .ok (.iconst 0, 1) := by decide +kernel
theorem dL_weightIn_22 : decode cL_weightIn 22 = .ok (.ireturn, 1) := by decide +kernel
set_option maxRecDepth 20000 in
theorem ggL_daysUntilForgotten_X0_daysUntilForgotten : GoodIn wsL_daysUntilForgotten wsX0_daysUntilForgotten := goodIn_ca (goodIn_r _ [6, 7, 8, 9, 10, 11, 5, 12, 13, 14, 15, 16, 17, 18, 19, 20, 21, 22, 23, 24, 25, 26, 27] (by decide +kernel) (by decide +kernel)) (goodIn_sub (fun _ h => List.mem_cons_of_mem _ (List.mem_append_right _ h)) (by decide +kernel))
set_option maxRecDepth 20000 in
theorem gL_daysUntilForgotten_X0_daysUntilForgotten : GoodIn wsL_daysUntilForgotten (wsV RL 92 RX0 yX0_daysUntilForgotten wsX0_daysUntilForgotten) := goodIn_app (goodIn_of _ (by decide +kernel)) ggL_daysUntilForgotten_X0_daysUntilForgotten
theorem dL_daysUntilForgotten_0 : decode cL_daysUntilForgotten 0 = .ok (.aload_n 2, 1) := by decide +kernel
theorem dL_daysUntilForgotten_1 : decode cL_daysUntilForgotten 1 = .ok (.iconst 0, 1) := by decide +kernel
theorem dL_daysUntilForgotten_2 : decode cL_daysUntilForgotten 2 = .ok (.aload_n 0, 1) := by decide +kernel
theorem dL_daysUntilForgotten_3 : decode cL_daysUntilForgotten 3 = .ok (.iload_n 1, 1) := by decide +kernel
theorem dL_daysUntilForgotten_4 : decode cL_daysUntilForgotten 4 = .ok (.invokevirtual 92, 3) := by decide +kernel
theorem dL_daysUntilForgotten_7 : decode cL_daysUntilForgotten 7 = .ok (.i2l, 1) := by decide +kernel
theorem dL_daysUntilForgotten_8 : decode cL_daysUntilForgotten 8 = .ok (.lastore, 1) := by decide +kernel
theorem dL_daysUntilForgotten_9 : decode cL_daysUntilForgotten 9 = .ok (.goto 6, 3) := by decide +kernel
theorem dL_daysUntilForgotten_12 : decode cL_daysUntilForgotten 12 = .ok (.astore_n 3, 1) := by decide +kernel
theorem dL_daysUntilForgotten_13 : decode cL_daysUntilForgotten 13 = .ok (.iconst 1, 1) := by decide +kernel
theorem dL_daysUntilForgotten_14 : decode cL_daysUntilForgotten 14 = .ok (.ireturn, 1) := by decide +kernel
theorem dL_daysUntilForgotten_15 : decode cL_daysUntilForgotten 15 = .ok (.iconst 0, 1) := by decide +kernel
theorem dL_daysUntilForgotten_16 : decode cL_daysUntilForgotten 16 = .ok (.ireturn, 1) := by decide +kernel
set_option maxRecDepth 20000 in
theorem ggL_borneIn_X0_borneIn : GoodIn wsL_borneIn wsX0_borneIn := goodIn_ca (goodIn_ca (goodIn_r _ [7, 8, 9, 10, 11, 12, 6, 13, 14, 15, 16, 17, 18, 19, 20, 21, 22, 23, 24, 25, 26, 27, 28, 29, 30, 31, 32, 33, 34, 35, 36, 37, 38, 39, 40, 41, 42, 43, 44, 45, 46, 47, 48, 49, 50, 51, 52, 53, 54, 55] (by decide +kernel) (by decide +kernel)) (goodIn_sub (fun _ h => List.mem_cons_of_mem _ (List.mem_append_left _ (List.mem_append_right _ h))) (by decide +kernel))) (goodIn_sub (fun _ h => List.mem_cons_of_mem _ (List.mem_append_right _ h)) (by decide +kernel))
set_option maxRecDepth 20000 in
theorem gL_borneIn_X0_borneIn : GoodIn wsL_borneIn (wsV RL 95 RX0 yX0_borneIn wsX0_borneIn) := goodIn_app (goodIn_of _ (by decide +kernel)) ggL_borneIn_X0_borneIn
theorem dL_borneIn_0 : decode cL_borneIn 0 = .ok (.aload_n 3, 1) := by decide +kernel
theorem dL_borneIn_1 : decode cL_borneIn 1 = .ok (.iconst 0, 1) := by decide +kernel
theorem dL_borneIn_2 : decode cL_borneIn 2 = .ok (.aload_n 0, 1) := by decide +kernel
theorem dL_borneIn_3 : decode cL_borneIn 3 = .ok (.iload_n 1, 1) := by decide +kernel
theorem dL_borneIn_4 : decode cL_borneIn 4 = .ok (.iload_n 2, 1) := by decide +kernel
theorem dL_borneIn_5 : decode cL_borneIn 5 = .ok (.invokevirtual 95, 3) := by decide +kernel
theorem dL_borneIn_8 : decode cL_borneIn 8 = .ok (.i2l, 1) := by decide +kernel
theorem dL_borneIn_9 : decode cL_borneIn 9 = .ok (.lastore, 1) := by decide +kernel
theorem dL_borneIn_10 : decode cL_borneIn 10 = .ok (.goto 11, 3) := by decide +kernel
theorem dL_borneIn_13 : decode cL_borneIn 13 = .ok (.astore 4, 2) := by decide +kernel
theorem dL_borneIn_15 : decode cL_borneIn 15 = .ok (.iconst 1, 1) := by decide +kernel
theorem dL_borneIn_16 : decode cL_borneIn 16 = .ok (.ireturn, 1) := by decide +kernel
theorem dL_borneIn_17 : decode cL_borneIn 17 = .ok (.astore 4, 2) := by decide +kernel
theorem dL_borneIn_19 : decode cL_borneIn 19 = .ok (.iconst 2, 1) := by decide +kernel
theorem dL_borneIn_20 : decode cL_borneIn 20 = .ok (.ireturn, 1) := by decide +kernel
theorem dL_borneIn_21 : decode cL_borneIn 21 = .ok (.iconst 0, 1) := by decide +kernel
theorem dL_borneIn_22 : decode cL_borneIn 22 = .ok (.ireturn, 1) := by decide +kernel
set_option maxRecDepth 20000 in
theorem ggL_worstToKeep_X0_worstToKeep : GoodIn wsL_worstToKeep wsX0_worstToKeep := goodIn_ca (goodIn_ca (goodIn_r _ [6, 7, 8, 9, 10, 11, 12, 13, 5, 14, 15, 16, 17, 18, 19, 20, 21, 22, 23, 24, 25, 26, 27, 28, 29, 30, 31, 32, 33, 34, 35, 36, 37, 38, 39, 40, 41, 42, 43, 44, 45, 46, 47, 48, 49, 50, 51, 52, 53, 54] (by decide +kernel) (by decide +kernel)) (goodIn_sub (fun _ h => List.mem_cons_of_mem _ (List.mem_append_left _ (List.mem_append_right _ h))) (by decide +kernel))) (goodIn_sub (fun _ h => List.mem_cons_of_mem _ (List.mem_append_right _ h)) (by decide +kernel))
set_option maxRecDepth 20000 in
theorem gL_worstToKeep_X0_worstToKeep : GoodIn wsL_worstToKeep (wsV RL 98 RX0 yX0_worstToKeep wsX0_worstToKeep) := goodIn_app (goodIn_of _ (by decide +kernel)) ggL_worstToKeep_X0_worstToKeep
theorem dL_worstToKeep_0 : decode cL_worstToKeep 0 = .ok (.aload_n 2, 1) := by decide +kernel
theorem dL_worstToKeep_1 : decode cL_worstToKeep 1 = .ok (.iconst 0, 1) := by decide +kernel
theorem dL_worstToKeep_2 : decode cL_worstToKeep 2 = .ok (.aload_n 0, 1) := by decide +kernel
theorem dL_worstToKeep_3 : decode cL_worstToKeep 3 = .ok (.iload_n 1, 1) := by decide +kernel
theorem dL_worstToKeep_4 : decode cL_worstToKeep 4 = .ok (.invokevirtual 98, 3) := by decide +kernel
theorem dL_worstToKeep_7 : decode cL_worstToKeep 7 = .ok (.i2l, 1) := by decide +kernel
theorem dL_worstToKeep_8 : decode cL_worstToKeep 8 = .ok (.lastore, 1) := by decide +kernel
theorem dL_worstToKeep_9 : decode cL_worstToKeep 9 = .ok (.goto 6, 3) := by decide +kernel
theorem dL_worstToKeep_12 : decode cL_worstToKeep 12 = .ok (.astore_n 3, 1) := by decide +kernel
theorem dL_worstToKeep_13 : decode cL_worstToKeep 13 = .ok (.iconst 1, 1) := by decide +kernel
theorem dL_worstToKeep_14 : decode cL_worstToKeep 14 = .ok (.ireturn, 1) := by decide +kernel
theorem dL_worstToKeep_15 : decode cL_worstToKeep 15 = .ok (.iconst 0, 1) := by decide +kernel
theorem dL_worstToKeep_16 : decode cL_worstToKeep 16 = .ok (.ireturn, 1) := by decide +kernel
set_option maxRecDepth 20000 in
theorem ggL_law_X0_init : GoodIn wsL_law wsX0_init := goodIn_r _ [9, 10, 11, 12, 13, 14, 15, 16, 17, 18, 19, 20, 21, 22, 646, 647, 648, 649, 650, 651, 652, 653, 654, 655, 656, 657] (by decide +kernel) (by decide +kernel)
set_option maxRecDepth 20000 in
theorem gL_law_X0_init : GoodIn wsL_law (wsX0_init) := ggL_law_X0_init
set_option maxRecDepth 20000 in
theorem ggL_law_X1_init : GoodIn wsL_law wsX1_init := goodIn_r _ [25, 26, 11, 12, 13, 27, 15, 28, 29, 30, 31, 32, 33, 34, 658, 659, 660, 661, 662, 663, 664, 665, 666, 667, 668, 669, 670] (by decide +kernel) (by decide +kernel)
set_option maxRecDepth 20000 in
theorem gL_law_X1_init : GoodIn wsL_law (wsX1_init) := ggL_law_X1_init
set_option maxRecDepth 20000 in
theorem ggL_law_L_addPerson : GoodIn wsL_law wsL_addPerson := goodIn_ca (goodIn_ca (goodIn_r _ [38, 39, 40, 41, 42, 43, 2, 44, 45, 46, 47, 14, 48, 49, 50, 51, 52, 646, 647, 648, 649, 650, 651, 652, 653, 654, 655, 656, 657] (by decide +kernel) (by decide +kernel)) (goodIn_sub (fun _ h => List.mem_append_left _ (List.mem_append_left _ (List.mem_append_right _ h))) (by decide +kernel))) (goodIn_sub (fun _ h => List.mem_append_left _ (List.mem_append_right _ h)) (by decide +kernel))
set_option maxRecDepth 20000 in
theorem gL_law_L_addPerson : GoodIn wsL_law (va_wsS RL 105 yL_addPerson wsL_addPerson) := goodIn_app (goodIn_of _ (by decide +kernel)) ggL_law_L_addPerson
set_option maxRecDepth 20000 in
theorem ggL_law_X1_addPerson : GoodIn wsL_law wsX1_addPerson := goodIn_r _ [56, 57, 58, 27, 59, 60, 5, 61, 62, 63, 64, 65, 658, 659, 660, 661, 662, 663, 664, 665, 666, 667, 668, 669, 670] (by decide +kernel) (by decide +kernel)
set_option maxRecDepth 20000 in
theorem gL_law_X1_addPerson : GoodIn wsL_law (wsV RL 110 RX1 yX1_addPerson wsX1_addPerson) := goodIn_app (goodIn_of _ (by decide +kernel)) ggL_law_X1_addPerson
set_option maxRecDepth 20000 in
theorem ggL_law_X1_thrown : GoodIn wsL_law wsX1_thrown := goodIn_r _ [69, 57, 658, 659, 660, 661, 662, 663, 664, 665, 666, 667, 668, 669, 670] (by decide +kernel) (by decide +kernel)
set_option maxRecDepth 20000 in
theorem gL_law_X1_thrown : GoodIn wsL_law (wsV RL 111 RX1 yX1_thrown wsX1_thrown) := goodIn_app (goodIn_of _ (by decide +kernel)) ggL_law_X1_thrown
set_option maxRecDepth 20000 in
theorem ggL_law_L_enter : GoodIn wsL_law wsL_enter := goodIn_ca (goodIn_r _ [72, 73, 74, 75, 76, 2, 77, 16, 78, 79, 80, 81, 82, 83, 47, 646, 647, 648, 649, 650, 651, 652, 653, 654, 655, 656, 657] (by decide +kernel) (by decide +kernel)) (goodIn_sub (fun _ h => List.mem_append_right _ h) (by decide +kernel))
set_option maxRecDepth 20000 in
theorem gL_law_L_enter : GoodIn wsL_law (va_wsS RL 115 yL_enter wsL_enter) := goodIn_app (goodIn_of _ (by decide +kernel)) ggL_law_L_enter
set_option maxRecDepth 20000 in
theorem ggL_law_X1_enter : GoodIn wsL_law wsX1_enter := goodIn_r _ [87, 57, 28, 88, 89, 90, 5, 91, 58, 59, 60, 61, 92, 93, 94, 95, 658, 659, 660, 661, 662, 663, 664, 665, 666, 667, 668, 669, 670] (by decide +kernel) (by decide +kernel)
set_option maxRecDepth 20000 in
theorem gL_law_X1_enter : GoodIn wsL_law (wsV RL 117 RX1 yX1_enter wsX1_enter) := goodIn_app (goodIn_of _ (by decide +kernel)) ggL_law_X1_enter
set_option maxRecDepth 20000 in
theorem ggL_law_L_slight : GoodIn wsL_law wsL_slight := goodIn_ca (goodIn_ca (goodIn_ca (goodIn_r _ [98, 73, 39, 40, 99, 100, 101, 2, 102, 51, 52, 45, 46, 103, 17, 18, 19, 78, 79, 80, 81, 82, 83, 47, 646, 647, 648, 649, 650, 651, 652, 653, 654, 655, 656, 657] (by decide +kernel) (by decide +kernel)) (goodIn_sub (fun _ h => List.mem_append_left _ (List.mem_append_right _ h)) (by decide +kernel))) (goodIn_sub (fun _ h => List.mem_append_left _ (List.mem_append_left _ (List.mem_append_right _ h))) (by decide +kernel))) (goodIn_sub (fun _ h => List.mem_append_right _ h) (by decide +kernel))
set_option maxRecDepth 20000 in
theorem gL_law_L_slight : GoodIn wsL_law (va_wsS RL 118 yL_slight wsL_slight) := goodIn_app (goodIn_of _ (by decide +kernel)) ggL_law_L_slight
set_option maxRecDepth 20000 in
theorem ggL_law_X1_slight : GoodIn wsL_law wsX1_slight := goodIn_r _ [107, 57, 108, 29, 30, 31, 88, 89, 90, 5, 91, 58, 59, 60, 61, 62, 63, 64, 65, 658, 659, 660, 661, 662, 663, 664, 665, 666, 667, 668, 669, 670] (by decide +kernel) (by decide +kernel)
set_option maxRecDepth 20000 in
theorem gL_law_X1_slight : GoodIn wsL_law (wsV RL 121 RX1 yX1_slight wsX1_slight) := goodIn_app (goodIn_of _ (by decide +kernel)) ggL_law_X1_slight
set_option maxRecDepth 20000 in
theorem ggL_law_L_mention : GoodIn wsL_law wsL_mention := goodIn_ca (goodIn_ca (goodIn_r _ [111, 73, 40, 112, 113, 114, 2, 115, 19, 116, 117, 118, 119, 82, 83, 103, 120, 121, 122, 123, 45, 46, 124, 125, 126, 127, 20, 128, 129, 130, 131, 132, 133, 134, 135, 22, 646, 647, 648, 649, 650, 651, 652, 653, 654, 655, 656, 657] (by decide +kernel) (by decide +kernel)) (goodIn_sub (fun _ h => List.mem_append_right _ h) (by decide +kernel))) (goodIn_sub (fun _ h => List.mem_append_left _ (List.mem_append_left _ (List.mem_append_right _ h))) (by decide +kernel))
set_option maxRecDepth 20000 in
theorem gL_law_L_mention : GoodIn wsL_law (va_wsS RL 122 yL_mention wsL_mention) := goodIn_app (goodIn_of _ (by decide +kernel)) ggL_law_L_mention
set_option maxRecDepth 20000 in
theorem ggL_law_X1_mention : GoodIn wsL_law wsX1_mention := goodIn_r _ [139, 57, 31, 140, 141, 142, 5, 143, 108, 59, 60, 61, 62, 63, 64, 65, 144, 145, 146, 147, 32, 148, 149, 150, 151, 152, 133, 134, 135, 34, 658, 659, 660, 661, 662, 663, 664, 665, 666, 667, 668, 669, 670] (by decide +kernel) (by decide +kernel)
set_option maxRecDepth 20000 in
theorem gL_law_X1_mention : GoodIn wsL_law (wsV RL 124 RX1 yX1_mention wsX1_mention) := goodIn_app (goodIn_of _ (by decide +kernel)) ggL_law_X1_mention
set_option maxRecDepth 20000 in
theorem ggL_law_L_apologize : GoodIn wsL_law wsL_apologize := goodIn_ca (goodIn_ca (goodIn_ca (goodIn_r _ [155, 73, 39, 40, 156, 157, 158, 2, 159, 160, 19, 116, 117, 118, 119, 82, 83, 103, 161, 162, 163, 51, 52, 120, 121, 122, 123, 45, 46, 124, 125, 126, 127, 20, 164, 165, 166, 167, 168, 169, 170, 171, 47, 16, 17, 18, 172, 173, 174, 175, 176, 177, 134, 178, 179, 180, 181, 182, 183, 184, 185, 186, 14, 78, 79, 80, 81, 187, 188, 189, 190, 128, 129, 130, 131, 132, 133, 135, 22, 191, 192, 193, 194, 195, 196, 197, 198, 646, 647, 648, 649, 650, 651, 652, 653, 654, 655, 656, 657] (by decide +kernel) (by decide +kernel)) (goodIn_sub (fun _ h => List.mem_append_right _ h) (by decide +kernel))) (goodIn_sub (fun _ h => List.mem_append_left _ (List.mem_append_right _ h)) (by decide +kernel))) (goodIn_sub (fun _ h => List.mem_append_left _ (List.mem_append_left _ (List.mem_append_right _ h))) (by decide +kernel))
set_option maxRecDepth 20000 in
theorem gL_law_L_apologize : GoodIn wsL_law (va_wsS RL 125 yL_apologize wsL_apologize) := goodIn_app (goodIn_of _ (by decide +kernel)) ggL_law_L_apologize
set_option maxRecDepth 20000 in
theorem ggL_law_X1_apologize : GoodIn wsL_law wsX1_apologize := goodIn_r _ [202, 57, 203, 31, 140, 141, 142, 5, 143, 108, 59, 60, 61, 62, 63, 64, 65, 144, 145, 146, 147, 32, 204, 205, 206, 207, 27, 30, 208, 209, 210, 211, 58, 28, 29, 148, 149, 150, 151, 152, 133, 134, 135, 34, 212, 213, 214, 215, 658, 659, 660, 661, 662, 663, 664, 665, 666, 667, 668, 669, 670] (by decide +kernel) (by decide +kernel)
set_option maxRecDepth 20000 in
theorem gL_law_X1_apologize : GoodIn wsL_law (wsV RL 128 RX1 yX1_apologize wsX1_apologize) := goodIn_app (goodIn_of _ (by decide +kernel)) ggL_law_X1_apologize
set_option maxRecDepth 20000 in
theorem ggL_law_L_setOff : GoodIn wsL_law wsL_setOff := goodIn_ca (goodIn_ca (goodIn_r _ [218, 73, 40, 219, 220, 221, 2, 222, 45, 46, 19, 132, 133, 134, 135, 116, 117, 118, 119, 82, 83, 103, 120, 121, 122, 123, 124, 125, 126, 127, 20, 223, 224, 225, 226, 227, 228, 229, 230, 17, 179, 180, 181, 182, 18, 191, 192, 193, 194, 195, 196, 197, 198, 646, 647, 648, 649, 650, 651, 652, 653, 654, 655, 656, 657] (by decide +kernel) (by decide +kernel)) (goodIn_sub (fun _ h => List.mem_append_left _ (List.mem_append_left _ (List.mem_append_right _ h))) (by decide +kernel))) (goodIn_sub (fun _ h => List.mem_append_right _ h) (by decide +kernel))
set_option maxRecDepth 20000 in
theorem gL_law_L_setOff : GoodIn wsL_law (va_wsS RL 129 yL_setOff wsL_setOff) := goodIn_app (goodIn_of _ (by decide +kernel)) ggL_law_L_setOff
set_option maxRecDepth 20000 in
theorem ggL_law_X1_setOff : GoodIn wsL_law wsX1_setOff := goodIn_r _ [234, 57, 31, 152, 133, 134, 135, 140, 141, 142, 5, 143, 108, 59, 60, 61, 62, 63, 64, 65, 235, 236, 237, 238, 29, 30, 144, 145, 146, 147, 32, 212, 213, 214, 215, 658, 659, 660, 661, 662, 663, 664, 665, 666, 667, 668, 669, 670] (by decide +kernel) (by decide +kernel)
set_option maxRecDepth 20000 in
theorem gL_law_X1_setOff : GoodIn wsL_law (wsV RL 131 RX1 yX1_setOff wsX1_setOff) := goodIn_app (goodIn_of _ (by decide +kernel)) ggL_law_X1_setOff
set_option maxRecDepth 20000 in
theorem ggL_law_L_setPride : GoodIn wsL_law wsL_setPride := goodIn_ca (goodIn_ca (goodIn_r _ [241, 73, 39, 242, 243, 244, 2, 245, 14, 78, 79, 80, 81, 82, 83, 47, 48, 49, 50, 51, 52, 646, 647, 648, 649, 650, 651, 652, 653, 654, 655, 656, 657] (by decide +kernel) (by decide +kernel)) (goodIn_sub (fun _ h => List.mem_append_right _ h) (by decide +kernel))) (goodIn_sub (fun _ h => List.mem_append_left _ (List.mem_append_right _ h)) (by decide +kernel))
set_option maxRecDepth 20000 in
theorem gL_law_L_setPride : GoodIn wsL_law (va_wsS RL 132 yL_setPride wsL_setPride) := goodIn_app (goodIn_of _ (by decide +kernel)) ggL_law_L_setPride
set_option maxRecDepth 20000 in
theorem ggL_law_X1_setPride : GoodIn wsL_law wsX1_setPride := goodIn_r _ [249, 57, 27, 88, 89, 90, 5, 91, 58, 59, 60, 61, 62, 63, 64, 65, 658, 659, 660, 661, 662, 663, 664, 665, 666, 667, 668, 669, 670] (by decide +kernel) (by decide +kernel)
set_option maxRecDepth 20000 in
theorem gL_law_X1_setPride : GoodIn wsL_law (wsV RL 134 RX1 yX1_setPride wsX1_setPride) := goodIn_app (goodIn_of _ (by decide +kernel)) ggL_law_X1_setPride
set_option maxRecDepth 20000 in
theorem ggL_law_L_pass : GoodIn wsL_law wsL_pass := goodIn_ca (goodIn_ca (goodIn_r _ [252, 39, 253, 254, 255, 2, 256, 257, 258, 259, 51, 52, 260, 261, 262, 263, 103, 20, 264, 265, 266, 267, 268, 21, 22, 19, 116, 117, 118, 119, 82, 83, 269, 270, 271, 176, 177, 134, 178, 132, 133, 135, 195, 196, 197, 198, 646, 647, 648, 649, 650, 651, 652, 653, 654, 655, 656, 657] (by decide +kernel) (by decide +kernel)) (goodIn_sub (fun _ h => List.mem_append_left _ (List.mem_append_right _ h)) (by decide +kernel))) (goodIn_sub (fun _ h => List.mem_append_right _ h) (by decide +kernel))
set_option maxRecDepth 20000 in
theorem gL_law_L_pass : GoodIn wsL_law (va_wsS RL 135 yL_pass wsL_pass) := goodIn_app (goodIn_of _ (by decide +kernel)) ggL_law_L_pass
set_option maxRecDepth 20000 in
theorem ggL_law_X1_pass : GoodIn wsL_law wsX1_pass := goodIn_r _ [275, 57, 108, 34, 152, 133, 134, 135, 33, 31, 276, 59, 60, 5, 61, 62, 63, 64, 65, 144, 145, 146, 147, 32, 277, 278, 279, 280, 281, 282, 283, 284, 177, 178, 212, 213, 214, 215, 658, 659, 660, 661, 662, 663, 664, 665, 666, 667, 668, 669, 670] (by decide +kernel) (by decide +kernel)
set_option maxRecDepth 20000 in
theorem gL_law_X1_pass : GoodIn wsL_law (wsV RL 137 RX1 yX1_pass wsX1_pass) := goodIn_app (goodIn_of _ (by decide +kernel)) ggL_law_X1_pass
set_option maxRecDepth 20000 in
theorem ggL_law_X0_day : GoodIn wsL_law wsX0_day := goodIn_r _ [288, 264, 646, 647, 648, 649, 650, 651, 652, 653, 654, 655, 656, 657] (by decide +kernel) (by decide +kernel)
set_option maxRecDepth 20000 in
theorem gL_law_X0_day : GoodIn wsL_law (wsV RL 138 RX0 yX0_day wsX0_day) := goodIn_app (goodIn_of _ (by decide +kernel)) ggL_law_X0_day
set_option maxRecDepth 20000 in
theorem ggL_law_X1_day : GoodIn wsL_law wsX1_day := goodIn_r _ [292, 276, 293, 294, 295, 5, 296, 57, 658, 659, 660, 661, 662, 663, 664, 665, 666, 667, 668, 669, 670] (by decide +kernel) (by decide +kernel)
set_option maxRecDepth 20000 in
theorem gL_law_X1_day : GoodIn wsL_law (wsV RL 141 RX1 yX1_day wsX1_day) := goodIn_app (goodIn_of _ (by decide +kernel)) ggL_law_X1_day
set_option maxRecDepth 20000 in
theorem ggL_law_X0_persons : GoodIn wsL_law wsX0_persons := goodIn_r _ [300, 47, 646, 647, 648, 649, 650, 651, 652, 653, 654, 655, 656, 657] (by decide +kernel) (by decide +kernel)
set_option maxRecDepth 20000 in
theorem gL_law_X0_persons : GoodIn wsL_law (wsV RL 142 RX0 yX0_persons wsX0_persons) := goodIn_app (goodIn_of _ (by decide +kernel)) ggL_law_X0_persons
set_option maxRecDepth 20000 in
theorem ggL_law_X1_persons : GoodIn wsL_law wsX1_persons := goodIn_r _ [304, 58, 293, 294, 295, 5, 296, 57, 658, 659, 660, 661, 662, 663, 664, 665, 666, 667, 668, 669, 670] (by decide +kernel) (by decide +kernel)
set_option maxRecDepth 20000 in
theorem gL_law_X1_persons : GoodIn wsL_law (wsV RL 145 RX1 yX1_persons wsX1_persons) := goodIn_app (goodIn_of _ (by decide +kernel)) ggL_law_X1_persons
set_option maxRecDepth 20000 in
theorem ggL_law_X0_slights : GoodIn wsL_law wsX0_slights := goodIn_r _ [308, 103, 646, 647, 648, 649, 650, 651, 652, 653, 654, 655, 656, 657] (by decide +kernel) (by decide +kernel)
set_option maxRecDepth 20000 in
theorem gL_law_X0_slights : GoodIn wsL_law (wsV RL 146 RX0 yX0_slights wsX0_slights) := goodIn_app (goodIn_of _ (by decide +kernel)) ggL_law_X0_slights
set_option maxRecDepth 20000 in
theorem ggL_law_X1_slights : GoodIn wsL_law wsX1_slights := goodIn_r _ [312, 108, 293, 294, 295, 5, 296, 57, 658, 659, 660, 661, 662, 663, 664, 665, 666, 667, 668, 669, 670] (by decide +kernel) (by decide +kernel)
set_option maxRecDepth 20000 in
theorem gL_law_X1_slights : GoodIn wsL_law (wsV RL 149 RX1 yX1_slights wsX1_slights) := goodIn_app (goodIn_of _ (by decide +kernel)) ggL_law_X1_slights
set_option maxRecDepth 20000 in
theorem ggL_law_X0_inHall : GoodIn wsL_law wsX0_inHall := goodIn_r _ [316, 47, 16, 646, 647, 648, 649, 650, 651, 652, 653, 654, 655, 656, 657] (by decide +kernel) (by decide +kernel)
set_option maxRecDepth 20000 in
theorem gL_law_X0_inHall : GoodIn wsL_law (wsV RL 150 RX0 yX0_inHall wsX0_inHall) := goodIn_app (goodIn_of _ (by decide +kernel)) ggL_law_X0_inHall
set_option maxRecDepth 20000 in
theorem ggL_law_X1_inHall : GoodIn wsL_law wsX1_inHall := goodIn_r _ [320, 321, 322, 323, 5, 324, 58, 28, 293, 294, 295, 296, 57, 658, 659, 660, 661, 662, 663, 664, 665, 666, 667, 668, 669, 670] (by decide +kernel) (by decide +kernel)
set_option maxRecDepth 20000 in
theorem gL_law_X1_inHall : GoodIn wsL_law (wsV RL 153 RX1 yX1_inHall wsX1_inHall) := goodIn_app (goodIn_of _ (by decide +kernel)) ggL_law_X1_inHall
set_option maxRecDepth 20000 in
theorem ggL_law_X0_scorned : GoodIn wsL_law wsX0_scorned := goodIn_r _ [328, 160, 646, 647, 648, 649, 650, 651, 652, 653, 654, 655, 656, 657] (by decide +kernel) (by decide +kernel)
set_option maxRecDepth 20000 in
theorem gL_law_X0_scorned : GoodIn wsL_law (wsV RL 154 RX0 yX0_scorned wsX0_scorned) := goodIn_app (goodIn_of _ (by decide +kernel)) ggL_law_X0_scorned
set_option maxRecDepth 20000 in
theorem ggL_law_X1_scorned : GoodIn wsL_law wsX1_scorned := goodIn_r _ [332, 203, 293, 294, 295, 5, 296, 57, 658, 659, 660, 661, 662, 663, 664, 665, 666, 667, 668, 669, 670] (by decide +kernel) (by decide +kernel)
set_option maxRecDepth 20000 in
theorem gL_law_X1_scorned : GoodIn wsL_law (wsV RL 157 RX1 yX1_scorned wsX1_scorned) := goodIn_app (goodIn_of _ (by decide +kernel)) ggL_law_X1_scorned
set_option maxRecDepth 20000 in
theorem ggL_law_L_isInHall : GoodIn wsL_law wsL_isInHall := goodIn_ca (goodIn_r _ [335, 73, 336, 337, 338, 2, 339, 16, 78, 79, 80, 81, 82, 83, 47, 646, 647, 648, 649, 650, 651, 652, 653, 654, 655, 656, 657] (by decide +kernel) (by decide +kernel)) (goodIn_sub (fun _ h => List.mem_append_right _ h) (by decide +kernel))
set_option maxRecDepth 20000 in
theorem gL_law_L_isInHall : GoodIn wsL_law (va_wsS RL 158 yL_isInHall wsL_isInHall) := goodIn_app (goodIn_of _ (by decide +kernel)) ggL_law_L_isInHall
set_option maxRecDepth 20000 in
theorem ggL_law_X1_isInHall : GoodIn wsL_law wsX1_isInHall := goodIn_r _ [343, 57, 28, 88, 89, 90, 5, 91, 58, 59, 60, 61, 92, 93, 94, 95, 658, 659, 660, 661, 662, 663, 664, 665, 666, 667, 668, 669, 670] (by decide +kernel) (by decide +kernel)
set_option maxRecDepth 20000 in
theorem gL_law_X1_isInHall : GoodIn wsL_law (wsV RL 160 RX1 yX1_isInHall wsX1_isInHall) := goodIn_app (goodIn_of _ (by decide +kernel)) ggL_law_X1_isInHall
set_option maxRecDepth 20000 in
theorem ggL_law_L_prideOf : GoodIn wsL_law wsL_prideOf := goodIn_ca (goodIn_r _ [346, 73, 347, 184, 185, 2, 186, 14, 78, 79, 80, 81, 82, 83, 47, 646, 647, 648, 649, 650, 651, 652, 653, 654, 655, 656, 657] (by decide +kernel) (by decide +kernel)) (goodIn_sub (fun _ h => List.mem_append_right _ h) (by decide +kernel))
set_option maxRecDepth 20000 in
theorem gL_law_L_prideOf : GoodIn wsL_law (va_wsS RL 161 yL_prideOf wsL_prideOf) := goodIn_app (goodIn_of _ (by decide +kernel)) ggL_law_L_prideOf
set_option maxRecDepth 20000 in
theorem ggL_law_X1_prideOf : GoodIn wsL_law wsX1_prideOf := goodIn_r _ [351, 57, 27, 88, 89, 90, 5, 91, 58, 59, 60, 61, 62, 63, 64, 65, 658, 659, 660, 661, 662, 663, 664, 665, 666, 667, 668, 669, 670] (by decide +kernel) (by decide +kernel)
set_option maxRecDepth 20000 in
theorem gL_law_X1_prideOf : GoodIn wsL_law (wsV RL 163 RX1 yX1_prideOf wsX1_prideOf) := goodIn_app (goodIn_of _ (by decide +kernel)) ggL_law_X1_prideOf
set_option maxRecDepth 20000 in
theorem ggL_law_L_borneBy : GoodIn wsL_law wsL_borneBy := goodIn_ca (goodIn_r _ [354, 73, 355, 356, 357, 2, 358, 103, 20, 18, 19, 78, 79, 80, 81, 82, 83, 47, 646, 647, 648, 649, 650, 651, 652, 653, 654, 655, 656, 657] (by decide +kernel) (by decide +kernel)) (goodIn_sub (fun _ h => List.mem_append_right _ h) (by decide +kernel))
set_option maxRecDepth 20000 in
theorem gL_law_L_borneBy : GoodIn wsL_law (va_wsS RL 164 yL_borneBy wsL_borneBy) := goodIn_app (goodIn_of _ (by decide +kernel)) ggL_law_L_borneBy
set_option maxRecDepth 20000 in
theorem ggL_law_X1_borneBy : GoodIn wsL_law wsX1_borneBy := goodIn_r _ [362, 57, 88, 89, 90, 5, 91, 58, 59, 60, 61, 363, 364, 365, 366, 108, 29, 30, 31, 62, 63, 64, 65, 658, 659, 660, 661, 662, 663, 664, 665, 666, 667, 668, 669, 670] (by decide +kernel) (by decide +kernel)
set_option maxRecDepth 20000 in
theorem gL_law_X1_borneBy : GoodIn wsL_law (wsV RL 166 RX1 yX1_borneBy wsX1_borneBy) := goodIn_app (goodIn_of _ (by decide +kernel)) ggL_law_X1_borneBy
set_option maxRecDepth 20000 in
theorem ggL_law_L_owedBy : GoodIn wsL_law wsL_owedBy := goodIn_ca (goodIn_r _ [369, 73, 370, 371, 372, 2, 373, 103, 20, 17, 19, 78, 79, 80, 81, 82, 83, 47, 646, 647, 648, 649, 650, 651, 652, 653, 654, 655, 656, 657] (by decide +kernel) (by decide +kernel)) (goodIn_sub (fun _ h => List.mem_append_right _ h) (by decide +kernel))
set_option maxRecDepth 20000 in
theorem gL_law_L_owedBy : GoodIn wsL_law (va_wsS RL 167 yL_owedBy wsL_owedBy) := goodIn_app (goodIn_of _ (by decide +kernel)) ggL_law_L_owedBy
set_option maxRecDepth 20000 in
theorem ggL_law_X1_owedBy : GoodIn wsL_law wsX1_owedBy := goodIn_r _ [377, 57, 88, 89, 90, 5, 91, 58, 59, 60, 61, 363, 364, 365, 366, 108, 29, 30, 31, 62, 63, 64, 65, 658, 659, 660, 661, 662, 663, 664, 665, 666, 667, 668, 669, 670] (by decide +kernel) (by decide +kernel)
set_option maxRecDepth 20000 in
theorem gL_law_X1_owedBy : GoodIn wsL_law (wsV RL 169 RX1 yX1_owedBy wsX1_owedBy) := goodIn_app (goodIn_of _ (by decide +kernel)) ggL_law_X1_owedBy
set_option maxRecDepth 20000 in
theorem ggL_law_L_balance : GoodIn wsL_law wsL_balance := goodIn_ca (goodIn_r _ [380, 73, 381, 382, 383, 2, 384, 78, 79, 80, 81, 82, 83, 47, 385, 386, 387, 388, 103, 20, 17, 18, 19, 646, 647, 648, 649, 650, 651, 652, 653, 654, 655, 656, 657] (by decide +kernel) (by decide +kernel)) (goodIn_sub (fun _ h => List.mem_append_right _ h) (by decide +kernel))
set_option maxRecDepth 20000 in
theorem gL_law_L_balance : GoodIn wsL_law (va_wsS RL 170 yL_balance wsL_balance) := goodIn_app (goodIn_of _ (by decide +kernel)) ggL_law_L_balance
set_option maxRecDepth 20000 in
theorem ggL_law_X1_balance : GoodIn wsL_law wsX1_balance := goodIn_r _ [392, 57, 88, 89, 90, 5, 91, 58, 59, 60, 61, 363, 364, 365, 366, 108, 29, 30, 31, 62, 63, 64, 65, 658, 659, 660, 661, 662, 663, 664, 665, 666, 667, 668, 669, 670] (by decide +kernel) (by decide +kernel)
set_option maxRecDepth 20000 in
theorem gL_law_X1_balance : GoodIn wsL_law (wsV RL 172 RX1 yX1_balance wsX1_balance) := goodIn_app (goodIn_of _ (by decide +kernel)) ggL_law_X1_balance
set_option maxRecDepth 20000 in
theorem ggL_law_X0_sorest : GoodIn wsL_law wsX0_sorest := goodIn_ca (goodIn_r _ [396, 47, 397, 356, 357, 2, 358, 103, 20, 18, 19, 78, 79, 80, 81, 82, 83, 646, 647, 648, 649, 650, 651, 652, 653, 654, 655, 656, 657] (by decide +kernel) (by decide +kernel)) (goodIn_sub (fun _ h => List.mem_append_right _ h) (by decide +kernel))
set_option maxRecDepth 20000 in
theorem gL_law_X0_sorest : GoodIn wsL_law (wsV RL 173 RX0 yX0_sorest wsX0_sorest) := goodIn_app (goodIn_of _ (by decide +kernel)) ggL_law_X0_sorest
set_option maxRecDepth 20000 in
theorem ggL_law_X1_sorest : GoodIn wsL_law wsX1_sorest := goodIn_r _ [401, 402, 403, 404, 5, 405, 58, 363, 364, 365, 366, 108, 29, 30, 31, 293, 294, 295, 296, 57, 658, 659, 660, 661, 662, 663, 664, 665, 666, 667, 668, 669, 670] (by decide +kernel) (by decide +kernel)
set_option maxRecDepth 20000 in
theorem gL_law_X1_sorest : GoodIn wsL_law (wsV RL 176 RX1 yX1_sorest wsX1_sorest) := goodIn_app (goodIn_of _ (by decide +kernel)) ggL_law_X1_sorest
set_option maxRecDepth 20000 in
theorem ggL_law_L_offenderOf : GoodIn wsL_law wsL_offenderOf := goodIn_ca (goodIn_r _ [408, 73, 409, 228, 229, 2, 230, 17, 116, 117, 118, 119, 82, 83, 103, 646, 647, 648, 649, 650, 651, 652, 653, 654, 655, 656, 657] (by decide +kernel) (by decide +kernel)) (goodIn_sub (fun _ h => List.mem_append_right _ h) (by decide +kernel))
set_option maxRecDepth 20000 in
theorem gL_law_L_offenderOf : GoodIn wsL_law (va_wsS RL 177 yL_offenderOf wsL_offenderOf) := goodIn_app (goodIn_of _ (by decide +kernel)) ggL_law_L_offenderOf
set_option maxRecDepth 20000 in
theorem ggL_law_X1_offenderOf : GoodIn wsL_law wsX1_offenderOf := goodIn_r _ [413, 29, 414, 415, 416, 5, 417, 57, 140, 141, 142, 143, 108, 59, 60, 61, 62, 63, 64, 65, 658, 659, 660, 661, 662, 663, 664, 665, 666, 667, 668, 669, 670] (by decide +kernel) (by decide +kernel)
set_option maxRecDepth 20000 in
theorem gL_law_X1_offenderOf : GoodIn wsL_law (wsV RL 179 RX1 yX1_offenderOf wsX1_offenderOf) := goodIn_app (goodIn_of _ (by decide +kernel)) ggL_law_X1_offenderOf
set_option maxRecDepth 20000 in
theorem ggL_law_L_offendedOf : GoodIn wsL_law wsL_offendedOf := goodIn_ca (goodIn_r _ [420, 73, 421, 180, 181, 2, 182, 18, 116, 117, 118, 119, 82, 83, 103, 646, 647, 648, 649, 650, 651, 652, 653, 654, 655, 656, 657] (by decide +kernel) (by decide +kernel)) (goodIn_sub (fun _ h => List.mem_append_right _ h) (by decide +kernel))
set_option maxRecDepth 20000 in
theorem gL_law_L_offendedOf : GoodIn wsL_law (va_wsS RL 180 yL_offendedOf wsL_offendedOf) := goodIn_app (goodIn_of _ (by decide +kernel)) ggL_law_L_offendedOf
set_option maxRecDepth 20000 in
theorem ggL_law_X1_offendedOf : GoodIn wsL_law wsX1_offendedOf := goodIn_r _ [425, 30, 414, 415, 416, 5, 417, 57, 140, 141, 142, 143, 108, 59, 60, 61, 62, 63, 64, 65, 658, 659, 660, 661, 662, 663, 664, 665, 666, 667, 668, 669, 670] (by decide +kernel) (by decide +kernel)
set_option maxRecDepth 20000 in
theorem gL_law_X1_offendedOf : GoodIn wsL_law (wsV RL 182 RX1 yX1_offendedOf wsX1_offendedOf) := goodIn_app (goodIn_of _ (by decide +kernel)) ggL_law_X1_offendedOf
set_option maxRecDepth 20000 in
theorem ggL_law_L_weightOf : GoodIn wsL_law wsL_weightOf := goodIn_ca (goodIn_r _ [428, 73, 429, 188, 189, 2, 190, 19, 116, 117, 118, 119, 82, 83, 103, 646, 647, 648, 649, 650, 651, 652, 653, 654, 655, 656, 657] (by decide +kernel) (by decide +kernel)) (goodIn_sub (fun _ h => List.mem_append_right _ h) (by decide +kernel))
set_option maxRecDepth 20000 in
theorem gL_law_L_weightOf : GoodIn wsL_law (va_wsS RL 183 yL_weightOf wsL_weightOf) := goodIn_app (goodIn_of _ (by decide +kernel)) ggL_law_L_weightOf
set_option maxRecDepth 20000 in
theorem ggL_law_X1_weightOf : GoodIn wsL_law wsX1_weightOf := goodIn_r _ [433, 31, 414, 415, 416, 5, 417, 57, 140, 141, 142, 143, 108, 59, 60, 61, 62, 63, 64, 65, 658, 659, 660, 661, 662, 663, 664, 665, 666, 667, 668, 669, 670] (by decide +kernel) (by decide +kernel)
set_option maxRecDepth 20000 in
theorem gL_law_X1_weightOf : GoodIn wsL_law (wsV RL 185 RX1 yX1_weightOf wsX1_weightOf) := goodIn_app (goodIn_of _ (by decide +kernel)) ggL_law_X1_weightOf
set_option maxRecDepth 20000 in
theorem ggL_law_L_stateOf : GoodIn wsL_law wsL_stateOf := goodIn_ca (goodIn_r _ [436, 73, 437, 125, 126, 2, 127, 20, 116, 117, 118, 119, 82, 83, 103, 646, 647, 648, 649, 650, 651, 652, 653, 654, 655, 656, 657] (by decide +kernel) (by decide +kernel)) (goodIn_sub (fun _ h => List.mem_append_right _ h) (by decide +kernel))
set_option maxRecDepth 20000 in
theorem gL_law_L_stateOf : GoodIn wsL_law (va_wsS RL 186 yL_stateOf wsL_stateOf) := goodIn_app (goodIn_of _ (by decide +kernel)) ggL_law_L_stateOf
set_option maxRecDepth 20000 in
theorem ggL_law_X1_stateOf : GoodIn wsL_law wsX1_stateOf := goodIn_r _ [441, 32, 414, 415, 416, 5, 417, 57, 140, 141, 142, 143, 108, 59, 60, 61, 62, 63, 64, 65, 658, 659, 660, 661, 662, 663, 664, 665, 666, 667, 668, 669, 670] (by decide +kernel) (by decide +kernel)
set_option maxRecDepth 20000 in
theorem gL_law_X1_stateOf : GoodIn wsL_law (wsV RL 188 RX1 yX1_stateOf wsX1_stateOf) := goodIn_app (goodIn_of _ (by decide +kernel)) ggL_law_X1_stateOf
set_option maxRecDepth 20000 in
theorem ggL_law_L_borneFor : GoodIn wsL_law wsL_borneFor := goodIn_ca (goodIn_r _ [444, 73, 445, 446, 447, 2, 448, 21, 116, 117, 118, 119, 82, 83, 103, 646, 647, 648, 649, 650, 651, 652, 653, 654, 655, 656, 657] (by decide +kernel) (by decide +kernel)) (goodIn_sub (fun _ h => List.mem_append_right _ h) (by decide +kernel))
set_option maxRecDepth 20000 in
theorem gL_law_L_borneFor : GoodIn wsL_law (va_wsS RL 189 yL_borneFor wsL_borneFor) := goodIn_app (goodIn_of _ (by decide +kernel)) ggL_law_L_borneFor
set_option maxRecDepth 20000 in
theorem ggL_law_X1_borneFor : GoodIn wsL_law wsX1_borneFor := goodIn_r _ [452, 33, 414, 415, 416, 5, 417, 57, 140, 141, 142, 143, 108, 59, 60, 61, 62, 63, 64, 65, 658, 659, 660, 661, 662, 663, 664, 665, 666, 667, 668, 669, 670] (by decide +kernel) (by decide +kernel)
set_option maxRecDepth 20000 in
theorem gL_law_X1_borneFor : GoodIn wsL_law (wsV RL 191 RX1 yX1_borneFor wsX1_borneFor) := goodIn_app (goodIn_of _ (by decide +kernel)) ggL_law_X1_borneFor
set_option maxRecDepth 20000 in
theorem ggL_law_L_quietFor : GoodIn wsL_law wsL_quietFor := goodIn_ca (goodIn_r _ [455, 73, 456, 457, 458, 2, 459, 22, 116, 117, 118, 119, 82, 83, 103, 646, 647, 648, 649, 650, 651, 652, 653, 654, 655, 656, 657] (by decide +kernel) (by decide +kernel)) (goodIn_sub (fun _ h => List.mem_append_right _ h) (by decide +kernel))
set_option maxRecDepth 20000 in
theorem gL_law_L_quietFor : GoodIn wsL_law (va_wsS RL 192 yL_quietFor wsL_quietFor) := goodIn_app (goodIn_of _ (by decide +kernel)) ggL_law_L_quietFor
set_option maxRecDepth 20000 in
theorem ggL_law_X1_quietFor : GoodIn wsL_law wsX1_quietFor := goodIn_r _ [463, 34, 414, 415, 416, 5, 417, 57, 140, 141, 142, 143, 108, 59, 60, 61, 62, 63, 64, 65, 658, 659, 660, 661, 662, 663, 664, 665, 666, 667, 668, 669, 670] (by decide +kernel) (by decide +kernel)
set_option maxRecDepth 20000 in
theorem gL_law_X1_quietFor : GoodIn wsL_law (wsV RL 194 RX1 yX1_quietFor wsX1_quietFor) := goodIn_app (goodIn_of _ (by decide +kernel)) ggL_law_X1_quietFor
set_option maxRecDepth 20000 in
theorem ggL_law_L_witnessesFor : GoodIn wsL_law wsL_witnessesFor := goodIn_ca (goodIn_r _ [466, 73, 467, 169, 170, 2, 171, 47, 16, 17, 18, 116, 117, 118, 119, 82, 83, 103, 646, 647, 648, 649, 650, 651, 652, 653, 654, 655, 656, 657] (by decide +kernel) (by decide +kernel)) (goodIn_sub (fun _ h => List.mem_append_right _ h) (by decide +kernel))
set_option maxRecDepth 20000 in
theorem gL_law_L_witnessesFor : GoodIn wsL_law (va_wsS RL 195 yL_witnessesFor wsL_witnessesFor) := goodIn_app (goodIn_of _ (by decide +kernel)) ggL_law_L_witnessesFor
set_option maxRecDepth 20000 in
theorem ggL_law_X1_witnessesFor : GoodIn wsL_law wsX1_witnessesFor := goodIn_r _ [471, 57, 140, 141, 142, 5, 143, 108, 59, 60, 61, 208, 209, 210, 211, 58, 28, 29, 30, 62, 63, 64, 65, 658, 659, 660, 661, 662, 663, 664, 665, 666, 667, 668, 669, 670] (by decide +kernel) (by decide +kernel)
set_option maxRecDepth 20000 in
theorem gL_law_X1_witnessesFor : GoodIn wsL_law (wsV RL 197 RX1 yX1_witnessesFor wsX1_witnessesFor) := goodIn_app (goodIn_of _ (by decide +kernel)) ggL_law_X1_witnessesFor
set_option maxRecDepth 20000 in
theorem ggL_law_L_inState : GoodIn wsL_law wsL_inState := goodIn_ca (goodIn_r _ [474, 39, 475, 476, 477, 2, 478, 51, 52, 103, 20, 646, 647, 648, 649, 650, 651, 652, 653, 654, 655, 656, 657] (by decide +kernel) (by decide +kernel)) (goodIn_sub (fun _ h => List.mem_append_left _ (List.mem_append_right _ h)) (by decide +kernel))
set_option maxRecDepth 20000 in
theorem gL_law_L_inState : GoodIn wsL_law (va_wsS RL 198 yL_inState wsL_inState) := goodIn_app (goodIn_of _ (by decide +kernel)) ggL_law_L_inState
set_option maxRecDepth 20000 in
theorem ggL_law_X1_inState : GoodIn wsL_law wsX1_inState := goodIn_r _ [482, 57, 59, 60, 5, 61, 483, 484, 485, 486, 108, 32, 62, 63, 64, 65, 658, 659, 660, 661, 662, 663, 664, 665, 666, 667, 668, 669, 670] (by decide +kernel) (by decide +kernel)
set_option maxRecDepth 20000 in
theorem gL_law_X1_inState : GoodIn wsL_law (wsV RL 200 RX1 yX1_inState wsX1_inState) := goodIn_app (goodIn_of _ (by decide +kernel)) ggL_law_X1_inState
set_option maxRecDepth 20000 in
theorem ggL_law_X0_heaviest : GoodIn wsL_law wsX0_heaviest := goodIn_r _ [490, 103, 20, 19, 646, 647, 648, 649, 650, 651, 652, 653, 654, 655, 656, 657] (by decide +kernel) (by decide +kernel)
set_option maxRecDepth 20000 in
theorem gL_law_X0_heaviest : GoodIn wsL_law (wsV RL 201 RX0 yX0_heaviest wsX0_heaviest) := goodIn_app (goodIn_of _ (by decide +kernel)) ggL_law_X0_heaviest
set_option maxRecDepth 20000 in
theorem ggL_law_X1_heaviest : GoodIn wsL_law wsX1_heaviest := goodIn_r _ [494, 495, 496, 497, 5, 498, 108, 31, 144, 145, 146, 147, 32, 293, 294, 295, 296, 57, 658, 659, 660, 661, 662, 663, 664, 665, 666, 667, 668, 669, 670] (by decide +kernel) (by decide +kernel)
set_option maxRecDepth 20000 in
theorem gL_law_X1_heaviest : GoodIn wsL_law (wsV RL 204 RX1 yX1_heaviest wsX1_heaviest) := goodIn_app (goodIn_of _ (by decide +kernel)) ggL_law_X1_heaviest
set_option maxRecDepth 20000 in
theorem ggL_law_X0_pairsToSetOff : GoodIn wsL_law wsX0_pairsToSetOff := goodIn_ca (goodIn_r _ [502, 103, 20, 223, 224, 225, 2, 226, 227, 228, 229, 230, 17, 116, 117, 118, 119, 82, 83, 179, 180, 181, 182, 18, 646, 647, 648, 649, 650, 651, 652, 653, 654, 655, 656, 657] (by decide +kernel) (by decide +kernel)) (goodIn_sub (fun _ h => List.mem_append_right _ h) (by decide +kernel))
set_option maxRecDepth 20000 in
theorem gL_law_X0_pairsToSetOff : GoodIn wsL_law (wsV RL 205 RX0 yX0_pairsToSetOff wsX0_pairsToSetOff) := goodIn_app (goodIn_of _ (by decide +kernel)) ggL_law_X0_pairsToSetOff
set_option maxRecDepth 20000 in
theorem ggL_law_X1_pairsToSetOff : GoodIn wsL_law wsX1_pairsToSetOff := goodIn_r _ [506, 507, 508, 509, 5, 510, 108, 235, 236, 237, 238, 29, 30, 144, 145, 146, 147, 32, 293, 294, 295, 296, 57, 658, 659, 660, 661, 662, 663, 664, 665, 666, 667, 668, 669, 670] (by decide +kernel) (by decide +kernel)
set_option maxRecDepth 20000 in
theorem gL_law_X1_pairsToSetOff : GoodIn wsL_law (wsV RL 208 RX1 yX1_pairsToSetOff wsX1_pairsToSetOff) := goodIn_app (goodIn_of _ (by decide +kernel)) ggL_law_X1_pairsToSetOff
set_option maxRecDepth 20000 in
theorem ggL_law_L_wordsWanted : GoodIn wsL_law wsL_wordsWanted := goodIn_ca (goodIn_r _ [513, 73, 514, 515, 516, 2, 517, 20, 19, 176, 177, 134, 178, 116, 117, 118, 119, 82, 83, 103, 172, 173, 174, 175, 179, 180, 181, 182, 18, 183, 184, 185, 186, 14, 78, 79, 80, 81, 47, 187, 188, 189, 190, 164, 165, 166, 167, 168, 169, 170, 171, 16, 17, 646, 647, 648, 649, 650, 651, 652, 653, 654, 655, 656, 657] (by decide +kernel) (by decide +kernel)) (goodIn_sub (fun _ h => List.mem_append_right _ h) (by decide +kernel))
set_option maxRecDepth 20000 in
theorem gL_law_L_wordsWanted : GoodIn wsL_law (va_wsS RL 209 yL_wordsWanted wsL_wordsWanted) := goodIn_app (goodIn_of _ (by decide +kernel)) ggL_law_L_wordsWanted
set_option maxRecDepth 20000 in
theorem ggL_law_X1_wordsWanted : GoodIn wsL_law wsX1_wordsWanted := goodIn_r _ [521, 57, 140, 141, 142, 5, 143, 108, 59, 60, 61, 522, 523, 524, 525, 31, 27, 30, 284, 177, 134, 178, 144, 145, 146, 147, 32, 208, 209, 210, 211, 58, 28, 29, 62, 63, 64, 65, 658, 659, 660, 661, 662, 663, 664, 665, 666, 667, 668, 669, 670] (by decide +kernel) (by decide +kernel)
set_option maxRecDepth 20000 in
theorem gL_law_X1_wordsWanted : GoodIn wsL_law (wsV RL 211 RX1 yX1_wordsWanted wsX1_wordsWanted) := goodIn_app (goodIn_of _ (by decide +kernel)) ggL_law_X1_wordsWanted
set_option maxRecDepth 20000 in
theorem ggL_law_L_wouldBeScorned : GoodIn wsL_law wsL_wouldBeScorned := goodIn_ca (goodIn_ca (goodIn_r _ [528, 73, 39, 529, 530, 531, 2, 532, 20, 116, 117, 118, 119, 82, 83, 103, 161, 162, 163, 51, 52, 164, 165, 166, 167, 168, 169, 170, 171, 47, 16, 17, 18, 172, 173, 174, 175, 176, 177, 134, 178, 179, 180, 181, 182, 183, 184, 185, 186, 14, 78, 79, 80, 81, 187, 188, 189, 190, 19, 646, 647, 648, 649, 650, 651, 652, 653, 654, 655, 656, 657] (by decide +kernel) (by decide +kernel)) (goodIn_sub (fun _ h => List.mem_append_right _ h) (by decide +kernel))) (goodIn_sub (fun _ h => List.mem_append_left _ (List.mem_append_right _ h)) (by decide +kernel))
set_option maxRecDepth 20000 in
theorem gL_law_L_wouldBeScorned : GoodIn wsL_law (va_wsS RL 212 yL_wouldBeScorned wsL_wouldBeScorned) := goodIn_app (goodIn_of _ (by decide +kernel)) ggL_law_L_wouldBeScorned
set_option maxRecDepth 20000 in
theorem ggL_law_X1_wouldBeScorned : GoodIn wsL_law wsX1_wouldBeScorned := goodIn_r _ [536, 57, 140, 141, 142, 5, 143, 108, 59, 60, 61, 92, 93, 94, 95, 144, 145, 146, 147, 32, 204, 205, 206, 207, 27, 30, 31, 208, 209, 210, 211, 58, 28, 29, 658, 659, 660, 661, 662, 663, 664, 665, 666, 667, 668, 669, 670] (by decide +kernel) (by decide +kernel)
set_option maxRecDepth 20000 in
theorem gL_law_X1_wouldBeScorned : GoodIn wsL_law (wsV RL 214 RX1 yX1_wouldBeScorned wsX1_wouldBeScorned) := goodIn_app (goodIn_of _ (by decide +kernel)) ggL_law_X1_wouldBeScorned
set_option maxRecDepth 20000 in
theorem ggL_law_L_weightIn : GoodIn wsL_law wsL_weightIn := goodIn_ca (goodIn_ca (goodIn_r _ [539, 73, 39, 540, 541, 542, 2, 543, 20, 22, 19, 21, 116, 117, 118, 119, 82, 83, 103, 257, 258, 259, 51, 52, 269, 270, 271, 176, 177, 134, 178, 132, 133, 135, 646, 647, 648, 649, 650, 651, 652, 653, 654, 655, 656, 657] (by decide +kernel) (by decide +kernel)) (goodIn_sub (fun _ h => List.mem_append_right _ h) (by decide +kernel))) (goodIn_sub (fun _ h => List.mem_append_left _ (List.mem_append_right _ h)) (by decide +kernel))
set_option maxRecDepth 20000 in
theorem gL_law_L_weightIn : GoodIn wsL_law (va_wsS RL 215 yL_weightIn wsL_weightIn) := goodIn_app (goodIn_of _ (by decide +kernel)) ggL_law_L_weightIn
set_option maxRecDepth 20000 in
theorem ggL_law_X1_weightIn : GoodIn wsL_law wsX1_weightIn := goodIn_r _ [547, 57, 140, 141, 142, 5, 143, 108, 59, 60, 61, 62, 63, 64, 65, 277, 278, 279, 280, 34, 31, 33, 144, 145, 146, 147, 32, 281, 282, 283, 284, 177, 134, 178, 152, 133, 135, 658, 659, 660, 661, 662, 663, 664, 665, 666, 667, 668, 669, 670] (by decide +kernel) (by decide +kernel)
set_option maxRecDepth 20000 in
theorem gL_law_X1_weightIn : GoodIn wsL_law (wsV RL 217 RX1 yX1_weightIn wsX1_weightIn) := goodIn_app (goodIn_of _ (by decide +kernel)) ggL_law_X1_weightIn
set_option maxRecDepth 20000 in
theorem ggL_law_L_daysUntilForgotten : GoodIn wsL_law wsL_daysUntilForgotten := goodIn_ca (goodIn_r _ [550, 73, 551, 552, 553, 2, 554, 20, 22, 116, 117, 118, 119, 82, 83, 103, 646, 647, 648, 649, 650, 651, 652, 653, 654, 655, 656, 657] (by decide +kernel) (by decide +kernel)) (goodIn_sub (fun _ h => List.mem_append_right _ h) (by decide +kernel))
set_option maxRecDepth 20000 in
theorem gL_law_L_daysUntilForgotten : GoodIn wsL_law (va_wsS RL 218 yL_daysUntilForgotten wsL_daysUntilForgotten) := goodIn_app (goodIn_of _ (by decide +kernel)) ggL_law_L_daysUntilForgotten
set_option maxRecDepth 20000 in
theorem ggL_law_X1_daysUntilForgotten : GoodIn wsL_law wsX1_daysUntilForgotten := goodIn_r _ [558, 57, 140, 141, 142, 5, 143, 108, 59, 60, 61, 559, 560, 561, 562, 34, 144, 145, 146, 147, 32, 62, 63, 64, 65, 658, 659, 660, 661, 662, 663, 664, 665, 666, 667, 668, 669, 670] (by decide +kernel) (by decide +kernel)
set_option maxRecDepth 20000 in
theorem gL_law_X1_daysUntilForgotten : GoodIn wsL_law (wsV RL 220 RX1 yX1_daysUntilForgotten wsX1_daysUntilForgotten) := goodIn_app (goodIn_of _ (by decide +kernel)) ggL_law_X1_daysUntilForgotten
set_option maxRecDepth 20000 in
theorem ggL_law_L_borneIn : GoodIn wsL_law wsL_borneIn := goodIn_ca (goodIn_ca (goodIn_r _ [565, 73, 39, 566, 567, 568, 2, 569, 103, 18, 78, 79, 80, 81, 82, 83, 47, 257, 258, 259, 51, 52, 570, 541, 542, 543, 20, 22, 19, 21, 116, 117, 118, 119, 269, 270, 271, 176, 177, 134, 178, 132, 133, 135, 646, 647, 648, 649, 650, 651, 652, 653, 654, 655, 656, 657] (by decide +kernel) (by decide +kernel)) (goodIn_sub (fun _ h => List.mem_append_right _ h) (by decide +kernel))) (goodIn_sub (fun _ h => List.mem_append_left _ (List.mem_append_right _ h)) (by decide +kernel))
set_option maxRecDepth 20000 in
theorem gL_law_L_borneIn : GoodIn wsL_law (va_wsS RL 221 yL_borneIn wsL_borneIn) := goodIn_app (goodIn_of _ (by decide +kernel)) ggL_law_L_borneIn
set_option maxRecDepth 20000 in
theorem ggL_law_X1_borneIn : GoodIn wsL_law wsX1_borneIn := goodIn_r _ [574, 57, 88, 89, 90, 5, 91, 58, 59, 60, 61, 62, 63, 64, 65, 575, 576, 577, 578, 108, 30, 277, 278, 279, 280, 34, 31, 33, 144, 145, 146, 147, 32, 281, 282, 283, 284, 177, 134, 178, 152, 133, 135, 658, 659, 660, 661, 662, 663, 664, 665, 666, 667, 668, 669, 670] (by decide +kernel) (by decide +kernel)
set_option maxRecDepth 20000 in
theorem gL_law_X1_borneIn : GoodIn wsL_law (wsV RL 223 RX1 yX1_borneIn wsX1_borneIn) := goodIn_app (goodIn_of _ (by decide +kernel)) ggL_law_X1_borneIn
set_option maxRecDepth 20000 in
theorem ggL_law_L_worstToKeep : GoodIn wsL_law wsL_worstToKeep := goodIn_ca (goodIn_ca (goodIn_r _ [581, 73, 582, 583, 584, 2, 585, 103, 20, 17, 19, 78, 79, 80, 81, 82, 83, 47, 570, 541, 542, 543, 22, 21, 116, 117, 118, 119, 257, 258, 259, 51, 52, 269, 270, 271, 176, 177, 134, 178, 132, 133, 135, 646, 647, 648, 649, 650, 651, 652, 653, 654, 655, 656, 657] (by decide +kernel) (by decide +kernel)) (goodIn_sub (fun _ h => List.mem_append_right _ h) (by decide +kernel))) (goodIn_sub (fun _ h => List.mem_append_left _ (List.mem_append_right _ h)) (by decide +kernel))
set_option maxRecDepth 20000 in
theorem gL_law_L_worstToKeep : GoodIn wsL_law (va_wsS RL 224 yL_worstToKeep wsL_worstToKeep) := goodIn_app (goodIn_of _ (by decide +kernel)) ggL_law_L_worstToKeep
set_option maxRecDepth 20000 in
theorem ggL_law_X1_worstToKeep : GoodIn wsL_law wsX1_worstToKeep := goodIn_r _ [589, 57, 88, 89, 90, 5, 91, 58, 59, 60, 61, 590, 591, 592, 593, 108, 29, 31, 144, 145, 146, 147, 32, 277, 278, 279, 280, 34, 33, 281, 282, 283, 284, 177, 134, 178, 152, 133, 135, 62, 63, 64, 65, 658, 659, 660, 661, 662, 663, 664, 665, 666, 667, 668, 669, 670] (by decide +kernel) (by decide +kernel)
set_option maxRecDepth 20000 in
theorem gL_law_X1_worstToKeep : GoodIn wsL_law (wsV RL 226 RX1 yX1_worstToKeep wsX1_worstToKeep) := goodIn_app (goodIn_of _ (by decide +kernel)) ggL_law_X1_worstToKeep
set_option maxRecDepth 20000 in
theorem ggL_law_X0_meanWeight : GoodIn wsL_law wsX0_meanWeight := goodIn_r _ [597, 103, 20, 19, 646, 647, 648, 649, 650, 651, 652, 653, 654, 655, 656, 657] (by decide +kernel) (by decide +kernel)
set_option maxRecDepth 20000 in
theorem gL_law_X0_meanWeight : GoodIn wsL_law (wsV RL 227 RX0 yX0_meanWeight wsX0_meanWeight) := goodIn_app (goodIn_of _ (by decide +kernel)) ggL_law_X0_meanWeight
set_option maxRecDepth 20000 in
theorem ggL_law_X1_meanWeight : GoodIn wsL_law wsX1_meanWeight := goodIn_r _ [601, 57, 483, 484, 485, 5, 486, 108, 32, 363, 364, 365, 366, 29, 30, 31, 658, 659, 660, 661, 662, 663, 664, 665, 666, 667, 668, 669, 670] (by decide +kernel) (by decide +kernel)
set_option maxRecDepth 20000 in
theorem gL_law_X1_meanWeight : GoodIn wsL_law (wsV RL 231 RX1 yX1_meanWeight wsX1_meanWeight) := goodIn_app (goodIn_of _ (by decide +kernel)) ggL_law_X1_meanWeight
set_option maxRecDepth 20000 in
theorem ggL_law_X0_digest : GoodIn wsL_law wsX0_digest := goodIn_ca (goodIn_ca (goodIn_r _ [605, 606, 47, 103, 607, 608, 609, 2, 610, 611, 286, 287, 288, 264, 612, 613, 614, 615, 616, 298, 299, 300, 617, 306, 307, 308, 618, 314, 315, 316, 16, 619, 326, 327, 328, 160, 620, 394, 395, 396, 397, 356, 357, 358, 20, 18, 19, 78, 79, 80, 81, 82, 83, 621, 476, 477, 478, 51, 52, 622, 488, 489, 490, 623, 500, 501, 502, 223, 224, 225, 226, 227, 228, 229, 230, 17, 116, 117, 118, 119, 179, 180, 181, 182, 624, 625, 626, 627, 628, 337, 338, 339, 183, 184, 185, 186, 14, 629, 371, 372, 373, 630, 567, 568, 569, 257, 258, 259, 570, 541, 542, 543, 22, 21, 269, 270, 271, 176, 177, 134, 178, 132, 133, 135, 631, 583, 584, 585, 632, 633, 634, 635, 187, 188, 189, 190, 124, 125, 126, 127, 636, 446, 447, 448, 637, 457, 458, 459, 168, 169, 170, 171, 638, 515, 516, 517, 172, 173, 174, 175, 164, 165, 166, 167, 639, 552, 553, 554, 646, 647, 648, 649, 650, 651, 652, 653, 654, 655, 656, 657] (by decide +kernel) (by decide +kernel)) (goodIn_sub (fun _ h => List.mem_append_right _ h) (by decide +kernel))) (goodIn_sub (fun _ h => List.mem_append_left _ (List.mem_append_right _ h)) (by decide +kernel))
set_option maxRecDepth 20000 in
theorem gL_law_X0_digest : GoodIn wsL_law (wsV RL 232 RX0 yX0_digest wsX0_digest) := goodIn_app (goodIn_of _ (by decide +kernel)) ggL_law_X0_digest
set_option maxRecDepth 20000 in
theorem ggL_law_X1_digest : GoodIn wsL_law wsX1_digest := goodIn_r _ [643, 57, 13, 276, 58, 108, 203, 644, 645, 28, 27, 31, 32, 33, 34, 321, 322, 323, 5, 324, 402, 403, 404, 405, 363, 364, 365, 366, 29, 30, 483, 484, 485, 486, 495, 496, 497, 498, 144, 145, 146, 147, 507, 508, 509, 510, 235, 236, 237, 238, 575, 576, 577, 578, 277, 278, 279, 280, 281, 282, 283, 284, 177, 134, 178, 152, 133, 135, 590, 591, 592, 593, 208, 209, 210, 211, 522, 523, 524, 525, 559, 560, 561, 562, 658, 659, 660, 661, 662, 663, 664, 665, 666, 667, 668, 669, 670] (by decide +kernel) (by decide +kernel)
set_option maxRecDepth 20000 in
theorem gL_law_X1_digest : GoodIn wsL_law (wsV RL 236 RX1 yX1_digest wsX1_digest) := goodIn_app (goodIn_of _ (by decide +kernel)) ggL_law_X1_digest
theorem dL_law_0 : decode cL_law 0 = .ok (.new 8, 3) := by decide +kernel
theorem dL_law_3 : decode cL_law 3 = .ok (.dup, 1) := by decide +kernel
theorem dL_law_4 : decode cL_law 4 = .ok (.invokespecial 101, 3) := by decide +kernel
theorem dL_law_7 : decode cL_law 7 = .ok (.astore_n 1, 1) := by decide +kernel
theorem dL_law_8 : decode cL_law 8 = .ok (.new 102, 3) := by decide +kernel
theorem dL_law_11 : decode cL_law 11 = .ok (.dup, 1) := by decide +kernel
theorem dL_law_12 : decode cL_law 12 = .ok (.invokespecial 104, 3) := by decide +kernel
theorem dL_law_15 : decode cL_law 15 = .ok (.astore_n 2, 1) := by decide +kernel
theorem dL_law_16 : decode cL_law 16 = .ok (.iconst 1, 1) := by decide +kernel
theorem dL_law_17 : decode cL_law 17 = .ok (.newarray .long, 2) := by decide +kernel
theorem dL_law_19 : decode cL_law 19 = .ok (.astore_n 3, 1) := by decide +kernel
theorem dL_law_20 : decode cL_law 20 = .ok (.iconst 0, 1) := by decide +kernel
theorem dL_law_21 : decode cL_law 21 = .ok (.istore 4, 2) := by decide +kernel
theorem dL_law_23 : decode cL_law 23 = .ok (.iload 4, 2) := by decide +kernel
theorem dL_law_25 : decode cL_law 25 = .ok (.aload_n 0, 1) := by decide +kernel
theorem dL_law_26 : decode cL_law 26 = .ok (.arraylength, 1) := by decide +kernel
theorem dL_law_27 : decode cL_law 27 = .ok (.iconst 4, 1) := by decide +kernel
theorem dL_law_28 : decode cL_law 28 = .ok (.isub, 1) := by decide +kernel
theorem dL_law_29 : decode cL_law 29 = .ok (.if_icmp .gt 1977, 3) := by decide +kernel
theorem dL_law_32 : decode cL_law 32 = .ok (.aload_n 0, 1) := by decide +kernel
theorem dL_law_33 : decode cL_law 33 = .ok (.iload 4, 2) := by decide +kernel
theorem dL_law_35 : decode cL_law 35 = .ok (.iaload, 1) := by decide +kernel
theorem dL_law_36 : decode cL_law 36 = .ok (.bipush 63, 2) := by decide +kernel
theorem dL_law_38 : decode cL_law 38 = .ok (.iand, 1) := by decide +kernel
theorem dL_law_39 : decode cL_law 39 = .ok (.tableswitch 1961 0 36 #[161, 217, 280, 360, 416, 484, 552, 620, 676, 689, 702, 715, 728, 741, 804, 860, 916, 972, 1040, 1053, 1109, 1165, 1221, 1277, 1333, 1389, 1445, 1501, 1514, 1527, 1583, 1658, 1726, 1782, 1850, 1906, 1947], 161) := by decide +kernel
theorem dL_law_200 : decode cL_law 200 = .ok (.aload_n 1, 1) := by decide +kernel
theorem dL_law_201 : decode cL_law 201 = .ok (.aload_n 0, 1) := by decide +kernel
theorem dL_law_202 : decode cL_law 202 = .ok (.iload 4, 2) := by decide +kernel
theorem dL_law_204 : decode cL_law 204 = .ok (.iconst 1, 1) := by decide +kernel
theorem dL_law_205 : decode cL_law 205 = .ok (.iadd, 1) := by decide +kernel
theorem dL_law_206 : decode cL_law 206 = .ok (.iaload, 1) := by decide +kernel
theorem dL_law_207 : decode cL_law 207 = .ok (.aload_n 3, 1) := by decide +kernel
theorem dL_law_208 : decode cL_law 208 = .ok (.invokestatic 105, 3) := by decide +kernel
theorem dL_law_211 : decode cL_law 211 = .ok (.istore 5, 2) := by decide +kernel
theorem dL_law_213 : decode cL_law 213 = .ok (.aload_n 2, 1) := by decide +kernel
theorem dL_law_214 : decode cL_law 214 = .ok (.aload_n 0, 1) := by decide +kernel
theorem dL_law_215 : decode cL_law 215 = .ok (.iload 4, 2) := by decide +kernel
theorem dL_law_217 : decode cL_law 217 = .ok (.iconst 1, 1) := by decide +kernel
theorem dL_law_218 : decode cL_law 218 = .ok (.iadd, 1) := by decide +kernel
theorem dL_law_219 : decode cL_law 219 = .ok (.iaload, 1) := by decide +kernel
theorem dL_law_220 : decode cL_law 220 = .ok (.invokevirtual 110, 3) := by decide +kernel
theorem dL_law_223 : decode cL_law 223 = .ok (.istore 6, 2) := by decide +kernel
theorem dL_law_225 : decode cL_law 225 = .ok (.aload_n 2, 1) := by decide +kernel
theorem dL_law_226 : decode cL_law 226 = .ok (.invokevirtual 111, 3) := by decide +kernel
theorem dL_law_229 : decode cL_law 229 = .ok (.iload 5, 2) := by decide +kernel
theorem dL_law_231 : decode cL_law 231 = .ok (.if_icmp .eq 5, 3) := by decide +kernel
theorem dL_law_234 : decode cL_law 234 = .ok (.iconst 0, 1) := by decide +kernel
theorem dL_law_235 : decode cL_law 235 = .ok (.ireturn, 1) := by decide +kernel
theorem dL_law_236 : decode cL_law 236 = .ok (.iload 5, 2) := by decide +kernel
theorem dL_law_238 : decode cL_law 238 = .ok (.ifCond .ne 15, 3) := by decide +kernel
theorem dL_law_241 : decode cL_law 241 = .ok (.aload_n 3, 1) := by decide +kernel
theorem dL_law_242 : decode cL_law 242 = .ok (.iconst 0, 1) := by decide +kernel
theorem dL_law_243 : decode cL_law 243 = .ok (.laload, 1) := by decide +kernel
theorem dL_law_244 : decode cL_law 244 = .ok (.iload 6, 2) := by decide +kernel
theorem dL_law_246 : decode cL_law 246 = .ok (.i2l, 1) := by decide +kernel
theorem dL_law_247 : decode cL_law 247 = .ok (.lcmp, 1) := by decide +kernel
theorem dL_law_248 : decode cL_law 248 = .ok (.ifCond .eq 5, 3) := by decide +kernel
theorem dL_law_251 : decode cL_law 251 = .ok (.iconst 0, 1) := by decide +kernel
theorem dL_law_252 : decode cL_law 252 = .ok (.ireturn, 1) := by decide +kernel
theorem dL_law_253 : decode cL_law 253 = .ok (.goto 1747, 3) := by decide +kernel
theorem dL_law_256 : decode cL_law 256 = .ok (.aload_n 1, 1) := by decide +kernel
theorem dL_law_257 : decode cL_law 257 = .ok (.aload_n 0, 1) := by decide +kernel
theorem dL_law_258 : decode cL_law 258 = .ok (.iload 4, 2) := by decide +kernel
theorem dL_law_260 : decode cL_law 260 = .ok (.iconst 1, 1) := by decide +kernel
theorem dL_law_261 : decode cL_law 261 = .ok (.iadd, 1) := by decide +kernel
theorem dL_law_262 : decode cL_law 262 = .ok (.iaload, 1) := by decide +kernel
theorem dL_law_263 : decode cL_law 263 = .ok (.aload_n 3, 1) := by decide +kernel
theorem dL_law_264 : decode cL_law 264 = .ok (.invokestatic 115, 3) := by decide +kernel
theorem dL_law_267 : decode cL_law 267 = .ok (.istore 5, 2) := by decide +kernel
theorem dL_law_269 : decode cL_law 269 = .ok (.aload_n 2, 1) := by decide +kernel
theorem dL_law_270 : decode cL_law 270 = .ok (.aload_n 0, 1) := by decide +kernel
theorem dL_law_271 : decode cL_law 271 = .ok (.iload 4, 2) := by decide +kernel
theorem dL_law_273 : decode cL_law 273 = .ok (.iconst 1, 1) := by decide +kernel
theorem dL_law_274 : decode cL_law 274 = .ok (.iadd, 1) := by decide +kernel
theorem dL_law_275 : decode cL_law 275 = .ok (.iaload, 1) := by decide +kernel
theorem dL_law_276 : decode cL_law 276 = .ok (.invokevirtual 117, 3) := by decide +kernel
theorem dL_law_279 : decode cL_law 279 = .ok (.istore 6, 2) := by decide +kernel
theorem dL_law_281 : decode cL_law 281 = .ok (.aload_n 2, 1) := by decide +kernel
theorem dL_law_282 : decode cL_law 282 = .ok (.invokevirtual 111, 3) := by decide +kernel
theorem dL_law_285 : decode cL_law 285 = .ok (.iload 5, 2) := by decide +kernel
theorem dL_law_287 : decode cL_law 287 = .ok (.if_icmp .eq 5, 3) := by decide +kernel
theorem dL_law_290 : decode cL_law 290 = .ok (.iconst 0, 1) := by decide +kernel
theorem dL_law_291 : decode cL_law 291 = .ok (.ireturn, 1) := by decide +kernel
theorem dL_law_292 : decode cL_law 292 = .ok (.iload 5, 2) := by decide +kernel
theorem dL_law_294 : decode cL_law 294 = .ok (.ifCond .ne 22, 3) := by decide +kernel
theorem dL_law_297 : decode cL_law 297 = .ok (.aload_n 3, 1) := by decide +kernel
theorem dL_law_298 : decode cL_law 298 = .ok (.iconst 0, 1) := by decide +kernel
theorem dL_law_299 : decode cL_law 299 = .ok (.laload, 1) := by decide +kernel
theorem dL_law_300 : decode cL_law 300 = .ok (.iload 6, 2) := by decide +kernel
theorem dL_law_302 : decode cL_law 302 = .ok (.ifCond .eq 7, 3) := by decide +kernel
theorem dL_law_305 : decode cL_law 305 = .ok (.lconst 1, 1) := by decide +kernel
theorem dL_law_306 : decode cL_law 306 = .ok (.goto 4, 3) := by decide +kernel
theorem dL_law_309 : decode cL_law 309 = .ok (.lconst 0, 1) := by decide +kernel
theorem dL_law_310 : decode cL_law 310 = .ok (.lcmp, 1) := by decide +kernel
theorem dL_law_311 : decode cL_law 311 = .ok (.ifCond .eq 5, 3) := by decide +kernel
theorem dL_law_314 : decode cL_law 314 = .ok (.iconst 0, 1) := by decide +kernel
theorem dL_law_315 : decode cL_law 315 = .ok (.ireturn, 1) := by decide +kernel
theorem dL_law_316 : decode cL_law 316 = .ok (.goto 1684, 3) := by decide +kernel
theorem dL_law_319 : decode cL_law 319 = .ok (.aload_n 1, 1) := by decide +kernel
theorem dL_law_320 : decode cL_law 320 = .ok (.aload_n 0, 1) := by decide +kernel
theorem dL_law_321 : decode cL_law 321 = .ok (.iload 4, 2) := by decide +kernel
theorem dL_law_323 : decode cL_law 323 = .ok (.iconst 1, 1) := by decide +kernel
theorem dL_law_324 : decode cL_law 324 = .ok (.iadd, 1) := by decide +kernel
theorem dL_law_325 : decode cL_law 325 = .ok (.iaload, 1) := by decide +kernel
theorem dL_law_326 : decode cL_law 326 = .ok (.aload_n 0, 1) := by decide +kernel
theorem dL_law_327 : decode cL_law 327 = .ok (.iload 4, 2) := by decide +kernel
theorem dL_law_329 : decode cL_law 329 = .ok (.iconst 2, 1) := by decide +kernel
theorem dL_law_330 : decode cL_law 330 = .ok (.iadd, 1) := by decide +kernel
theorem dL_law_331 : decode cL_law 331 = .ok (.iaload, 1) := by decide +kernel
theorem dL_law_332 : decode cL_law 332 = .ok (.aload_n 0, 1) := by decide +kernel
theorem dL_law_333 : decode cL_law 333 = .ok (.iload 4, 2) := by decide +kernel
theorem dL_law_335 : decode cL_law 335 = .ok (.iconst 3, 1) := by decide +kernel
theorem dL_law_336 : decode cL_law 336 = .ok (.iadd, 1) := by decide +kernel
theorem dL_law_337 : decode cL_law 337 = .ok (.iaload, 1) := by decide +kernel
theorem dL_law_338 : decode cL_law 338 = .ok (.aload_n 3, 1) := by decide +kernel
theorem dL_law_339 : decode cL_law 339 = .ok (.invokestatic 118, 3) := by decide +kernel
theorem dL_law_342 : decode cL_law 342 = .ok (.istore 5, 2) := by decide +kernel
theorem dL_law_344 : decode cL_law 344 = .ok (.aload_n 2, 1) := by decide +kernel
theorem dL_law_345 : decode cL_law 345 = .ok (.aload_n 0, 1) := by decide +kernel
theorem dL_law_346 : decode cL_law 346 = .ok (.iload 4, 2) := by decide +kernel
theorem dL_law_348 : decode cL_law 348 = .ok (.iconst 1, 1) := by decide +kernel
theorem dL_law_349 : decode cL_law 349 = .ok (.iadd, 1) := by decide +kernel
theorem dL_law_350 : decode cL_law 350 = .ok (.iaload, 1) := by decide +kernel
theorem dL_law_351 : decode cL_law 351 = .ok (.aload_n 0, 1) := by decide +kernel
theorem dL_law_352 : decode cL_law 352 = .ok (.iload 4, 2) := by decide +kernel
theorem dL_law_354 : decode cL_law 354 = .ok (.iconst 2, 1) := by decide +kernel
theorem dL_law_355 : decode cL_law 355 = .ok (.iadd, 1) := by decide +kernel
theorem dL_law_356 : decode cL_law 356 = .ok (.iaload, 1) := by decide +kernel
theorem dL_law_357 : decode cL_law 357 = .ok (.aload_n 0, 1) := by decide +kernel
theorem dL_law_358 : decode cL_law 358 = .ok (.iload 4, 2) := by decide +kernel
theorem dL_law_360 : decode cL_law 360 = .ok (.iconst 3, 1) := by decide +kernel
theorem dL_law_361 : decode cL_law 361 = .ok (.iadd, 1) := by decide +kernel
theorem dL_law_362 : decode cL_law 362 = .ok (.iaload, 1) := by decide +kernel
theorem dL_law_363 : decode cL_law 363 = .ok (.invokevirtual 121, 3) := by decide +kernel
theorem dL_law_366 : decode cL_law 366 = .ok (.istore 6, 2) := by decide +kernel
theorem dL_law_368 : decode cL_law 368 = .ok (.aload_n 2, 1) := by decide +kernel
theorem dL_law_369 : decode cL_law 369 = .ok (.invokevirtual 111, 3) := by decide +kernel
theorem dL_law_372 : decode cL_law 372 = .ok (.iload 5, 2) := by decide +kernel
theorem dL_law_374 : decode cL_law 374 = .ok (.if_icmp .eq 5, 3) := by decide +kernel
theorem dL_law_377 : decode cL_law 377 = .ok (.iconst 0, 1) := by decide +kernel
theorem dL_law_378 : decode cL_law 378 = .ok (.ireturn, 1) := by decide +kernel
theorem dL_law_379 : decode cL_law 379 = .ok (.iload 5, 2) := by decide +kernel
theorem dL_law_381 : decode cL_law 381 = .ok (.ifCond .ne 15, 3) := by decide +kernel
theorem dL_law_384 : decode cL_law 384 = .ok (.aload_n 3, 1) := by decide +kernel
theorem dL_law_385 : decode cL_law 385 = .ok (.iconst 0, 1) := by decide +kernel
theorem dL_law_386 : decode cL_law 386 = .ok (.laload, 1) := by decide +kernel
theorem dL_law_387 : decode cL_law 387 = .ok (.iload 6, 2) := by decide +kernel
theorem dL_law_389 : decode cL_law 389 = .ok (.i2l, 1) := by decide +kernel
theorem dL_law_390 : decode cL_law 390 = .ok (.lcmp, 1) := by decide +kernel
theorem dL_law_391 : decode cL_law 391 = .ok (.ifCond .eq 5, 3) := by decide +kernel
theorem dL_law_394 : decode cL_law 394 = .ok (.iconst 0, 1) := by decide +kernel
theorem dL_law_395 : decode cL_law 395 = .ok (.ireturn, 1) := by decide +kernel
theorem dL_law_396 : decode cL_law 396 = .ok (.goto 1604, 3) := by decide +kernel
theorem dL_law_399 : decode cL_law 399 = .ok (.aload_n 1, 1) := by decide +kernel
theorem dL_law_400 : decode cL_law 400 = .ok (.aload_n 0, 1) := by decide +kernel
theorem dL_law_401 : decode cL_law 401 = .ok (.iload 4, 2) := by decide +kernel
theorem dL_law_403 : decode cL_law 403 = .ok (.iconst 1, 1) := by decide +kernel
theorem dL_law_404 : decode cL_law 404 = .ok (.iadd, 1) := by decide +kernel
theorem dL_law_405 : decode cL_law 405 = .ok (.iaload, 1) := by decide +kernel
theorem dL_law_406 : decode cL_law 406 = .ok (.aload_n 3, 1) := by decide +kernel
theorem dL_law_407 : decode cL_law 407 = .ok (.invokestatic 122, 3) := by decide +kernel
theorem dL_law_410 : decode cL_law 410 = .ok (.istore 5, 2) := by decide +kernel
theorem dL_law_412 : decode cL_law 412 = .ok (.aload_n 2, 1) := by decide +kernel
theorem dL_law_413 : decode cL_law 413 = .ok (.aload_n 0, 1) := by decide +kernel
theorem dL_law_414 : decode cL_law 414 = .ok (.iload 4, 2) := by decide +kernel
theorem dL_law_416 : decode cL_law 416 = .ok (.iconst 1, 1) := by decide +kernel
theorem dL_law_417 : decode cL_law 417 = .ok (.iadd, 1) := by decide +kernel
theorem dL_law_418 : decode cL_law 418 = .ok (.iaload, 1) := by decide +kernel
theorem dL_law_419 : decode cL_law 419 = .ok (.invokevirtual 124, 3) := by decide +kernel
theorem dL_law_422 : decode cL_law 422 = .ok (.istore 6, 2) := by decide +kernel
theorem dL_law_424 : decode cL_law 424 = .ok (.aload_n 2, 1) := by decide +kernel
theorem dL_law_425 : decode cL_law 425 = .ok (.invokevirtual 111, 3) := by decide +kernel
theorem dL_law_428 : decode cL_law 428 = .ok (.iload 5, 2) := by decide +kernel
theorem dL_law_430 : decode cL_law 430 = .ok (.if_icmp .eq 5, 3) := by decide +kernel
theorem dL_law_433 : decode cL_law 433 = .ok (.iconst 0, 1) := by decide +kernel
theorem dL_law_434 : decode cL_law 434 = .ok (.ireturn, 1) := by decide +kernel
theorem dL_law_435 : decode cL_law 435 = .ok (.iload 5, 2) := by decide +kernel
theorem dL_law_437 : decode cL_law 437 = .ok (.ifCond .ne 15, 3) := by decide +kernel
theorem dL_law_440 : decode cL_law 440 = .ok (.aload_n 3, 1) := by decide +kernel
theorem dL_law_441 : decode cL_law 441 = .ok (.iconst 0, 1) := by decide +kernel
theorem dL_law_442 : decode cL_law 442 = .ok (.laload, 1) := by decide +kernel
theorem dL_law_443 : decode cL_law 443 = .ok (.iload 6, 2) := by decide +kernel
theorem dL_law_445 : decode cL_law 445 = .ok (.i2l, 1) := by decide +kernel
theorem dL_law_446 : decode cL_law 446 = .ok (.lcmp, 1) := by decide +kernel
theorem dL_law_447 : decode cL_law 447 = .ok (.ifCond .eq 5, 3) := by decide +kernel
theorem dL_law_450 : decode cL_law 450 = .ok (.iconst 0, 1) := by decide +kernel
theorem dL_law_451 : decode cL_law 451 = .ok (.ireturn, 1) := by decide +kernel
theorem dL_law_452 : decode cL_law 452 = .ok (.goto 1548, 3) := by decide +kernel
theorem dL_law_455 : decode cL_law 455 = .ok (.aload_n 1, 1) := by decide +kernel
theorem dL_law_456 : decode cL_law 456 = .ok (.aload_n 0, 1) := by decide +kernel
theorem dL_law_457 : decode cL_law 457 = .ok (.iload 4, 2) := by decide +kernel
theorem dL_law_459 : decode cL_law 459 = .ok (.iconst 1, 1) := by decide +kernel
theorem dL_law_460 : decode cL_law 460 = .ok (.iadd, 1) := by decide +kernel
theorem dL_law_461 : decode cL_law 461 = .ok (.iaload, 1) := by decide +kernel
theorem dL_law_462 : decode cL_law 462 = .ok (.aload_n 0, 1) := by decide +kernel
theorem dL_law_463 : decode cL_law 463 = .ok (.iload 4, 2) := by decide +kernel
theorem dL_law_465 : decode cL_law 465 = .ok (.iconst 2, 1) := by decide +kernel
theorem dL_law_466 : decode cL_law 466 = .ok (.iadd, 1) := by decide +kernel
theorem dL_law_467 : decode cL_law 467 = .ok (.iaload, 1) := by decide +kernel
theorem dL_law_468 : decode cL_law 468 = .ok (.aload_n 3, 1) := by decide +kernel
theorem dL_law_469 : decode cL_law 469 = .ok (.invokestatic 125, 3) := by decide +kernel
theorem dL_law_472 : decode cL_law 472 = .ok (.istore 5, 2) := by decide +kernel
theorem dL_law_474 : decode cL_law 474 = .ok (.aload_n 2, 1) := by decide +kernel
theorem dL_law_475 : decode cL_law 475 = .ok (.aload_n 0, 1) := by decide +kernel
theorem dL_law_476 : decode cL_law 476 = .ok (.iload 4, 2) := by decide +kernel
theorem dL_law_478 : decode cL_law 478 = .ok (.iconst 1, 1) := by decide +kernel
theorem dL_law_479 : decode cL_law 479 = .ok (.iadd, 1) := by decide +kernel
theorem dL_law_480 : decode cL_law 480 = .ok (.iaload, 1) := by decide +kernel
theorem dL_law_481 : decode cL_law 481 = .ok (.aload_n 0, 1) := by decide +kernel
theorem dL_law_482 : decode cL_law 482 = .ok (.iload 4, 2) := by decide +kernel
theorem dL_law_484 : decode cL_law 484 = .ok (.iconst 2, 1) := by decide +kernel
theorem dL_law_485 : decode cL_law 485 = .ok (.iadd, 1) := by decide +kernel
theorem dL_law_486 : decode cL_law 486 = .ok (.iaload, 1) := by decide +kernel
theorem dL_law_487 : decode cL_law 487 = .ok (.invokevirtual 128, 3) := by decide +kernel
theorem dL_law_490 : decode cL_law 490 = .ok (.istore 6, 2) := by decide +kernel
theorem dL_law_492 : decode cL_law 492 = .ok (.aload_n 2, 1) := by decide +kernel
theorem dL_law_493 : decode cL_law 493 = .ok (.invokevirtual 111, 3) := by decide +kernel
theorem dL_law_496 : decode cL_law 496 = .ok (.iload 5, 2) := by decide +kernel
theorem dL_law_498 : decode cL_law 498 = .ok (.if_icmp .eq 5, 3) := by decide +kernel
theorem dL_law_501 : decode cL_law 501 = .ok (.iconst 0, 1) := by decide +kernel
theorem dL_law_502 : decode cL_law 502 = .ok (.ireturn, 1) := by decide +kernel
theorem dL_law_503 : decode cL_law 503 = .ok (.iload 5, 2) := by decide +kernel
theorem dL_law_505 : decode cL_law 505 = .ok (.ifCond .ne 15, 3) := by decide +kernel
theorem dL_law_508 : decode cL_law 508 = .ok (.aload_n 3, 1) := by decide +kernel
theorem dL_law_509 : decode cL_law 509 = .ok (.iconst 0, 1) := by decide +kernel
theorem dL_law_510 : decode cL_law 510 = .ok (.laload, 1) := by decide +kernel
theorem dL_law_511 : decode cL_law 511 = .ok (.iload 6, 2) := by decide +kernel
theorem dL_law_513 : decode cL_law 513 = .ok (.i2l, 1) := by decide +kernel
theorem dL_law_514 : decode cL_law 514 = .ok (.lcmp, 1) := by decide +kernel
theorem dL_law_515 : decode cL_law 515 = .ok (.ifCond .eq 5, 3) := by decide +kernel
theorem dL_law_518 : decode cL_law 518 = .ok (.iconst 0, 1) := by decide +kernel
theorem dL_law_519 : decode cL_law 519 = .ok (.ireturn, 1) := by decide +kernel
theorem dL_law_520 : decode cL_law 520 = .ok (.goto 1480, 3) := by decide +kernel
theorem dL_law_523 : decode cL_law 523 = .ok (.aload_n 1, 1) := by decide +kernel
theorem dL_law_524 : decode cL_law 524 = .ok (.aload_n 0, 1) := by decide +kernel
theorem dL_law_525 : decode cL_law 525 = .ok (.iload 4, 2) := by decide +kernel
theorem dL_law_527 : decode cL_law 527 = .ok (.iconst 1, 1) := by decide +kernel
theorem dL_law_528 : decode cL_law 528 = .ok (.iadd, 1) := by decide +kernel
theorem dL_law_529 : decode cL_law 529 = .ok (.iaload, 1) := by decide +kernel
theorem dL_law_530 : decode cL_law 530 = .ok (.aload_n 0, 1) := by decide +kernel
theorem dL_law_531 : decode cL_law 531 = .ok (.iload 4, 2) := by decide +kernel
theorem dL_law_533 : decode cL_law 533 = .ok (.iconst 2, 1) := by decide +kernel
theorem dL_law_534 : decode cL_law 534 = .ok (.iadd, 1) := by decide +kernel
theorem dL_law_535 : decode cL_law 535 = .ok (.iaload, 1) := by decide +kernel
theorem dL_law_536 : decode cL_law 536 = .ok (.aload_n 3, 1) := by decide +kernel
theorem dL_law_537 : decode cL_law 537 = .ok (.invokestatic 129, 3) := by decide +kernel
theorem dL_law_540 : decode cL_law 540 = .ok (.istore 5, 2) := by decide +kernel
theorem dL_law_542 : decode cL_law 542 = .ok (.aload_n 2, 1) := by decide +kernel
theorem dL_law_543 : decode cL_law 543 = .ok (.aload_n 0, 1) := by decide +kernel
theorem dL_law_544 : decode cL_law 544 = .ok (.iload 4, 2) := by decide +kernel
theorem dL_law_546 : decode cL_law 546 = .ok (.iconst 1, 1) := by decide +kernel
theorem dL_law_547 : decode cL_law 547 = .ok (.iadd, 1) := by decide +kernel
theorem dL_law_548 : decode cL_law 548 = .ok (.iaload, 1) := by decide +kernel
theorem dL_law_549 : decode cL_law 549 = .ok (.aload_n 0, 1) := by decide +kernel
theorem dL_law_550 : decode cL_law 550 = .ok (.iload 4, 2) := by decide +kernel
theorem dL_law_552 : decode cL_law 552 = .ok (.iconst 2, 1) := by decide +kernel
theorem dL_law_553 : decode cL_law 553 = .ok (.iadd, 1) := by decide +kernel
theorem dL_law_554 : decode cL_law 554 = .ok (.iaload, 1) := by decide +kernel
theorem dL_law_555 : decode cL_law 555 = .ok (.invokevirtual 131, 3) := by decide +kernel
theorem dL_law_558 : decode cL_law 558 = .ok (.istore 6, 2) := by decide +kernel
theorem dL_law_560 : decode cL_law 560 = .ok (.aload_n 2, 1) := by decide +kernel
theorem dL_law_561 : decode cL_law 561 = .ok (.invokevirtual 111, 3) := by decide +kernel
theorem dL_law_564 : decode cL_law 564 = .ok (.iload 5, 2) := by decide +kernel
theorem dL_law_566 : decode cL_law 566 = .ok (.if_icmp .eq 5, 3) := by decide +kernel
theorem dL_law_569 : decode cL_law 569 = .ok (.iconst 0, 1) := by decide +kernel
theorem dL_law_570 : decode cL_law 570 = .ok (.ireturn, 1) := by decide +kernel
theorem dL_law_571 : decode cL_law 571 = .ok (.iload 5, 2) := by decide +kernel
theorem dL_law_573 : decode cL_law 573 = .ok (.ifCond .ne 15, 3) := by decide +kernel
theorem dL_law_576 : decode cL_law 576 = .ok (.aload_n 3, 1) := by decide +kernel
theorem dL_law_577 : decode cL_law 577 = .ok (.iconst 0, 1) := by decide +kernel
theorem dL_law_578 : decode cL_law 578 = .ok (.laload, 1) := by decide +kernel
theorem dL_law_579 : decode cL_law 579 = .ok (.iload 6, 2) := by decide +kernel
theorem dL_law_581 : decode cL_law 581 = .ok (.i2l, 1) := by decide +kernel
theorem dL_law_582 : decode cL_law 582 = .ok (.lcmp, 1) := by decide +kernel
theorem dL_law_583 : decode cL_law 583 = .ok (.ifCond .eq 5, 3) := by decide +kernel
theorem dL_law_586 : decode cL_law 586 = .ok (.iconst 0, 1) := by decide +kernel
theorem dL_law_587 : decode cL_law 587 = .ok (.ireturn, 1) := by decide +kernel
theorem dL_law_588 : decode cL_law 588 = .ok (.goto 1412, 3) := by decide +kernel
theorem dL_law_591 : decode cL_law 591 = .ok (.aload_n 1, 1) := by decide +kernel
theorem dL_law_592 : decode cL_law 592 = .ok (.aload_n 0, 1) := by decide +kernel
theorem dL_law_593 : decode cL_law 593 = .ok (.iload 4, 2) := by decide +kernel
theorem dL_law_595 : decode cL_law 595 = .ok (.iconst 1, 1) := by decide +kernel
theorem dL_law_596 : decode cL_law 596 = .ok (.iadd, 1) := by decide +kernel
theorem dL_law_597 : decode cL_law 597 = .ok (.iaload, 1) := by decide +kernel
theorem dL_law_598 : decode cL_law 598 = .ok (.aload_n 0, 1) := by decide +kernel
theorem dL_law_599 : decode cL_law 599 = .ok (.iload 4, 2) := by decide +kernel
theorem dL_law_601 : decode cL_law 601 = .ok (.iconst 2, 1) := by decide +kernel
theorem dL_law_602 : decode cL_law 602 = .ok (.iadd, 1) := by decide +kernel
theorem dL_law_603 : decode cL_law 603 = .ok (.iaload, 1) := by decide +kernel
theorem dL_law_604 : decode cL_law 604 = .ok (.aload_n 3, 1) := by decide +kernel
theorem dL_law_605 : decode cL_law 605 = .ok (.invokestatic 132, 3) := by decide +kernel
theorem dL_law_608 : decode cL_law 608 = .ok (.istore 5, 2) := by decide +kernel
theorem dL_law_610 : decode cL_law 610 = .ok (.aload_n 2, 1) := by decide +kernel
theorem dL_law_611 : decode cL_law 611 = .ok (.aload_n 0, 1) := by decide +kernel
theorem dL_law_612 : decode cL_law 612 = .ok (.iload 4, 2) := by decide +kernel
theorem dL_law_614 : decode cL_law 614 = .ok (.iconst 1, 1) := by decide +kernel
theorem dL_law_615 : decode cL_law 615 = .ok (.iadd, 1) := by decide +kernel
theorem dL_law_616 : decode cL_law 616 = .ok (.iaload, 1) := by decide +kernel
theorem dL_law_617 : decode cL_law 617 = .ok (.aload_n 0, 1) := by decide +kernel
theorem dL_law_618 : decode cL_law 618 = .ok (.iload 4, 2) := by decide +kernel
theorem dL_law_620 : decode cL_law 620 = .ok (.iconst 2, 1) := by decide +kernel
theorem dL_law_621 : decode cL_law 621 = .ok (.iadd, 1) := by decide +kernel
theorem dL_law_622 : decode cL_law 622 = .ok (.iaload, 1) := by decide +kernel
theorem dL_law_623 : decode cL_law 623 = .ok (.invokevirtual 134, 3) := by decide +kernel
theorem dL_law_626 : decode cL_law 626 = .ok (.istore 6, 2) := by decide +kernel
theorem dL_law_628 : decode cL_law 628 = .ok (.aload_n 2, 1) := by decide +kernel
theorem dL_law_629 : decode cL_law 629 = .ok (.invokevirtual 111, 3) := by decide +kernel
theorem dL_law_632 : decode cL_law 632 = .ok (.iload 5, 2) := by decide +kernel
theorem dL_law_634 : decode cL_law 634 = .ok (.if_icmp .eq 5, 3) := by decide +kernel
theorem dL_law_637 : decode cL_law 637 = .ok (.iconst 0, 1) := by decide +kernel
theorem dL_law_638 : decode cL_law 638 = .ok (.ireturn, 1) := by decide +kernel
theorem dL_law_639 : decode cL_law 639 = .ok (.iload 5, 2) := by decide +kernel
theorem dL_law_641 : decode cL_law 641 = .ok (.ifCond .ne 15, 3) := by decide +kernel
theorem dL_law_644 : decode cL_law 644 = .ok (.aload_n 3, 1) := by decide +kernel
theorem dL_law_645 : decode cL_law 645 = .ok (.iconst 0, 1) := by decide +kernel
theorem dL_law_646 : decode cL_law 646 = .ok (.laload, 1) := by decide +kernel
theorem dL_law_647 : decode cL_law 647 = .ok (.iload 6, 2) := by decide +kernel
theorem dL_law_649 : decode cL_law 649 = .ok (.i2l, 1) := by decide +kernel
theorem dL_law_650 : decode cL_law 650 = .ok (.lcmp, 1) := by decide +kernel
theorem dL_law_651 : decode cL_law 651 = .ok (.ifCond .eq 5, 3) := by decide +kernel
theorem dL_law_654 : decode cL_law 654 = .ok (.iconst 0, 1) := by decide +kernel
theorem dL_law_655 : decode cL_law 655 = .ok (.ireturn, 1) := by decide +kernel
theorem dL_law_656 : decode cL_law 656 = .ok (.goto 1344, 3) := by decide +kernel
theorem dL_law_659 : decode cL_law 659 = .ok (.aload_n 1, 1) := by decide +kernel
theorem dL_law_660 : decode cL_law 660 = .ok (.aload_n 0, 1) := by decide +kernel
theorem dL_law_661 : decode cL_law 661 = .ok (.iload 4, 2) := by decide +kernel
theorem dL_law_663 : decode cL_law 663 = .ok (.iconst 1, 1) := by decide +kernel
theorem dL_law_664 : decode cL_law 664 = .ok (.iadd, 1) := by decide +kernel
theorem dL_law_665 : decode cL_law 665 = .ok (.iaload, 1) := by decide +kernel
theorem dL_law_666 : decode cL_law 666 = .ok (.aload_n 3, 1) := by decide +kernel
theorem dL_law_667 : decode cL_law 667 = .ok (.invokestatic 135, 3) := by decide +kernel
theorem dL_law_670 : decode cL_law 670 = .ok (.istore 5, 2) := by decide +kernel
theorem dL_law_672 : decode cL_law 672 = .ok (.aload_n 2, 1) := by decide +kernel
theorem dL_law_673 : decode cL_law 673 = .ok (.aload_n 0, 1) := by decide +kernel
theorem dL_law_674 : decode cL_law 674 = .ok (.iload 4, 2) := by decide +kernel
theorem dL_law_676 : decode cL_law 676 = .ok (.iconst 1, 1) := by decide +kernel
theorem dL_law_677 : decode cL_law 677 = .ok (.iadd, 1) := by decide +kernel
theorem dL_law_678 : decode cL_law 678 = .ok (.iaload, 1) := by decide +kernel
theorem dL_law_679 : decode cL_law 679 = .ok (.invokevirtual 137, 3) := by decide +kernel
theorem dL_law_682 : decode cL_law 682 = .ok (.istore 6, 2) := by decide +kernel
theorem dL_law_684 : decode cL_law 684 = .ok (.aload_n 2, 1) := by decide +kernel
theorem dL_law_685 : decode cL_law 685 = .ok (.invokevirtual 111, 3) := by decide +kernel
theorem dL_law_688 : decode cL_law 688 = .ok (.iload 5, 2) := by decide +kernel
theorem dL_law_690 : decode cL_law 690 = .ok (.if_icmp .eq 5, 3) := by decide +kernel
theorem dL_law_693 : decode cL_law 693 = .ok (.iconst 0, 1) := by decide +kernel
theorem dL_law_694 : decode cL_law 694 = .ok (.ireturn, 1) := by decide +kernel
theorem dL_law_695 : decode cL_law 695 = .ok (.iload 5, 2) := by decide +kernel
theorem dL_law_697 : decode cL_law 697 = .ok (.ifCond .ne 15, 3) := by decide +kernel
theorem dL_law_700 : decode cL_law 700 = .ok (.aload_n 3, 1) := by decide +kernel
theorem dL_law_701 : decode cL_law 701 = .ok (.iconst 0, 1) := by decide +kernel
theorem dL_law_702 : decode cL_law 702 = .ok (.laload, 1) := by decide +kernel
theorem dL_law_703 : decode cL_law 703 = .ok (.iload 6, 2) := by decide +kernel
theorem dL_law_705 : decode cL_law 705 = .ok (.i2l, 1) := by decide +kernel
theorem dL_law_706 : decode cL_law 706 = .ok (.lcmp, 1) := by decide +kernel
theorem dL_law_707 : decode cL_law 707 = .ok (.ifCond .eq 5, 3) := by decide +kernel
theorem dL_law_710 : decode cL_law 710 = .ok (.iconst 0, 1) := by decide +kernel
theorem dL_law_711 : decode cL_law 711 = .ok (.ireturn, 1) := by decide +kernel
theorem dL_law_712 : decode cL_law 712 = .ok (.goto 1288, 3) := by decide +kernel
theorem dL_law_715 : decode cL_law 715 = .ok (.aload_n 1, 1) := by decide +kernel
theorem dL_law_716 : decode cL_law 716 = .ok (.invokevirtual 138, 3) := by decide +kernel
theorem dL_law_719 : decode cL_law 719 = .ok (.aload_n 2, 1) := by decide +kernel
theorem dL_law_720 : decode cL_law 720 = .ok (.invokevirtual 141, 3) := by decide +kernel
theorem dL_law_723 : decode cL_law 723 = .ok (.if_icmp .eq 1277, 3) := by decide +kernel
theorem dL_law_726 : decode cL_law 726 = .ok (.iconst 0, 1) := by decide +kernel
theorem dL_law_727 : decode cL_law 727 = .ok (.ireturn, 1) := by decide +kernel
theorem dL_law_728 : decode cL_law 728 = .ok (.aload_n 1, 1) := by decide +kernel
theorem dL_law_729 : decode cL_law 729 = .ok (.invokevirtual 142, 3) := by decide +kernel
theorem dL_law_732 : decode cL_law 732 = .ok (.aload_n 2, 1) := by decide +kernel
theorem dL_law_733 : decode cL_law 733 = .ok (.invokevirtual 145, 3) := by decide +kernel
theorem dL_law_736 : decode cL_law 736 = .ok (.if_icmp .eq 1264, 3) := by decide +kernel
theorem dL_law_739 : decode cL_law 739 = .ok (.iconst 0, 1) := by decide +kernel
theorem dL_law_740 : decode cL_law 740 = .ok (.ireturn, 1) := by decide +kernel
theorem dL_law_741 : decode cL_law 741 = .ok (.aload_n 1, 1) := by decide +kernel
theorem dL_law_742 : decode cL_law 742 = .ok (.invokevirtual 146, 3) := by decide +kernel
theorem dL_law_745 : decode cL_law 745 = .ok (.aload_n 2, 1) := by decide +kernel
theorem dL_law_746 : decode cL_law 746 = .ok (.invokevirtual 149, 3) := by decide +kernel
theorem dL_law_749 : decode cL_law 749 = .ok (.if_icmp .eq 1251, 3) := by decide +kernel
theorem dL_law_752 : decode cL_law 752 = .ok (.iconst 0, 1) := by decide +kernel
theorem dL_law_753 : decode cL_law 753 = .ok (.ireturn, 1) := by decide +kernel
theorem dL_law_754 : decode cL_law 754 = .ok (.aload_n 1, 1) := by decide +kernel
theorem dL_law_755 : decode cL_law 755 = .ok (.invokevirtual 150, 3) := by decide +kernel
theorem dL_law_758 : decode cL_law 758 = .ok (.aload_n 2, 1) := by decide +kernel
theorem dL_law_759 : decode cL_law 759 = .ok (.invokevirtual 153, 3) := by decide +kernel
theorem dL_law_762 : decode cL_law 762 = .ok (.if_icmp .eq 1238, 3) := by decide +kernel
theorem dL_law_765 : decode cL_law 765 = .ok (.iconst 0, 1) := by decide +kernel
theorem dL_law_766 : decode cL_law 766 = .ok (.ireturn, 1) := by decide +kernel
theorem dL_law_767 : decode cL_law 767 = .ok (.aload_n 1, 1) := by decide +kernel
theorem dL_law_768 : decode cL_law 768 = .ok (.invokevirtual 154, 3) := by decide +kernel
theorem dL_law_771 : decode cL_law 771 = .ok (.aload_n 2, 1) := by decide +kernel
theorem dL_law_772 : decode cL_law 772 = .ok (.invokevirtual 157, 3) := by decide +kernel
theorem dL_law_775 : decode cL_law 775 = .ok (.if_icmp .eq 1225, 3) := by decide +kernel
theorem dL_law_778 : decode cL_law 778 = .ok (.iconst 0, 1) := by decide +kernel
theorem dL_law_779 : decode cL_law 779 = .ok (.ireturn, 1) := by decide +kernel
theorem dL_law_780 : decode cL_law 780 = .ok (.aload_n 1, 1) := by decide +kernel
theorem dL_law_781 : decode cL_law 781 = .ok (.aload_n 0, 1) := by decide +kernel
theorem dL_law_782 : decode cL_law 782 = .ok (.iload 4, 2) := by decide +kernel
theorem dL_law_784 : decode cL_law 784 = .ok (.iconst 1, 1) := by decide +kernel
theorem dL_law_785 : decode cL_law 785 = .ok (.iadd, 1) := by decide +kernel
theorem dL_law_786 : decode cL_law 786 = .ok (.iaload, 1) := by decide +kernel
theorem dL_law_787 : decode cL_law 787 = .ok (.aload_n 3, 1) := by decide +kernel
theorem dL_law_788 : decode cL_law 788 = .ok (.invokestatic 158, 3) := by decide +kernel
theorem dL_law_791 : decode cL_law 791 = .ok (.istore 5, 2) := by decide +kernel
theorem dL_law_793 : decode cL_law 793 = .ok (.aload_n 2, 1) := by decide +kernel
theorem dL_law_794 : decode cL_law 794 = .ok (.aload_n 0, 1) := by decide +kernel
theorem dL_law_795 : decode cL_law 795 = .ok (.iload 4, 2) := by decide +kernel
theorem dL_law_797 : decode cL_law 797 = .ok (.iconst 1, 1) := by decide +kernel
theorem dL_law_798 : decode cL_law 798 = .ok (.iadd, 1) := by decide +kernel
theorem dL_law_799 : decode cL_law 799 = .ok (.iaload, 1) := by decide +kernel
theorem dL_law_800 : decode cL_law 800 = .ok (.invokevirtual 160, 3) := by decide +kernel
theorem dL_law_803 : decode cL_law 803 = .ok (.istore 6, 2) := by decide +kernel
theorem dL_law_805 : decode cL_law 805 = .ok (.aload_n 2, 1) := by decide +kernel
theorem dL_law_806 : decode cL_law 806 = .ok (.invokevirtual 111, 3) := by decide +kernel
theorem dL_law_809 : decode cL_law 809 = .ok (.iload 5, 2) := by decide +kernel
theorem dL_law_811 : decode cL_law 811 = .ok (.if_icmp .eq 5, 3) := by decide +kernel
theorem dL_law_814 : decode cL_law 814 = .ok (.iconst 0, 1) := by decide +kernel
theorem dL_law_815 : decode cL_law 815 = .ok (.ireturn, 1) := by decide +kernel
theorem dL_law_816 : decode cL_law 816 = .ok (.iload 5, 2) := by decide +kernel
theorem dL_law_818 : decode cL_law 818 = .ok (.ifCond .ne 22, 3) := by decide +kernel
theorem dL_law_821 : decode cL_law 821 = .ok (.aload_n 3, 1) := by decide +kernel
theorem dL_law_822 : decode cL_law 822 = .ok (.iconst 0, 1) := by decide +kernel
theorem dL_law_823 : decode cL_law 823 = .ok (.laload, 1) := by decide +kernel
theorem dL_law_824 : decode cL_law 824 = .ok (.iload 6, 2) := by decide +kernel
theorem dL_law_826 : decode cL_law 826 = .ok (.ifCond .eq 7, 3) := by decide +kernel
theorem dL_law_829 : decode cL_law 829 = .ok (.lconst 1, 1) := by decide +kernel
theorem dL_law_830 : decode cL_law 830 = .ok (.goto 4, 3) := by decide +kernel
theorem dL_law_833 : decode cL_law 833 = .ok (.lconst 0, 1) := by decide +kernel
theorem dL_law_834 : decode cL_law 834 = .ok (.lcmp, 1) := by decide +kernel
theorem dL_law_835 : decode cL_law 835 = .ok (.ifCond .eq 5, 3) := by decide +kernel
theorem dL_law_838 : decode cL_law 838 = .ok (.iconst 0, 1) := by decide +kernel
theorem dL_law_839 : decode cL_law 839 = .ok (.ireturn, 1) := by decide +kernel
theorem dL_law_840 : decode cL_law 840 = .ok (.goto 1160, 3) := by decide +kernel
theorem dL_law_843 : decode cL_law 843 = .ok (.aload_n 1, 1) := by decide +kernel
theorem dL_law_844 : decode cL_law 844 = .ok (.aload_n 0, 1) := by decide +kernel
theorem dL_law_845 : decode cL_law 845 = .ok (.iload 4, 2) := by decide +kernel
theorem dL_law_847 : decode cL_law 847 = .ok (.iconst 1, 1) := by decide +kernel
theorem dL_law_848 : decode cL_law 848 = .ok (.iadd, 1) := by decide +kernel
theorem dL_law_849 : decode cL_law 849 = .ok (.iaload, 1) := by decide +kernel
theorem dL_law_850 : decode cL_law 850 = .ok (.aload_n 3, 1) := by decide +kernel
theorem dL_law_851 : decode cL_law 851 = .ok (.invokestatic 161, 3) := by decide +kernel
theorem dL_law_854 : decode cL_law 854 = .ok (.istore 5, 2) := by decide +kernel
theorem dL_law_856 : decode cL_law 856 = .ok (.aload_n 2, 1) := by decide +kernel
theorem dL_law_857 : decode cL_law 857 = .ok (.aload_n 0, 1) := by decide +kernel
theorem dL_law_858 : decode cL_law 858 = .ok (.iload 4, 2) := by decide +kernel
theorem dL_law_860 : decode cL_law 860 = .ok (.iconst 1, 1) := by decide +kernel
theorem dL_law_861 : decode cL_law 861 = .ok (.iadd, 1) := by decide +kernel
theorem dL_law_862 : decode cL_law 862 = .ok (.iaload, 1) := by decide +kernel
theorem dL_law_863 : decode cL_law 863 = .ok (.invokevirtual 163, 3) := by decide +kernel
theorem dL_law_866 : decode cL_law 866 = .ok (.istore 6, 2) := by decide +kernel
theorem dL_law_868 : decode cL_law 868 = .ok (.aload_n 2, 1) := by decide +kernel
theorem dL_law_869 : decode cL_law 869 = .ok (.invokevirtual 111, 3) := by decide +kernel
theorem dL_law_872 : decode cL_law 872 = .ok (.iload 5, 2) := by decide +kernel
theorem dL_law_874 : decode cL_law 874 = .ok (.if_icmp .eq 5, 3) := by decide +kernel
theorem dL_law_877 : decode cL_law 877 = .ok (.iconst 0, 1) := by decide +kernel
theorem dL_law_878 : decode cL_law 878 = .ok (.ireturn, 1) := by decide +kernel
theorem dL_law_879 : decode cL_law 879 = .ok (.iload 5, 2) := by decide +kernel
theorem dL_law_881 : decode cL_law 881 = .ok (.ifCond .ne 15, 3) := by decide +kernel
theorem dL_law_884 : decode cL_law 884 = .ok (.aload_n 3, 1) := by decide +kernel
theorem dL_law_885 : decode cL_law 885 = .ok (.iconst 0, 1) := by decide +kernel
theorem dL_law_886 : decode cL_law 886 = .ok (.laload, 1) := by decide +kernel
theorem dL_law_887 : decode cL_law 887 = .ok (.iload 6, 2) := by decide +kernel
theorem dL_law_889 : decode cL_law 889 = .ok (.i2l, 1) := by decide +kernel
theorem dL_law_890 : decode cL_law 890 = .ok (.lcmp, 1) := by decide +kernel
theorem dL_law_891 : decode cL_law 891 = .ok (.ifCond .eq 5, 3) := by decide +kernel
theorem dL_law_894 : decode cL_law 894 = .ok (.iconst 0, 1) := by decide +kernel
theorem dL_law_895 : decode cL_law 895 = .ok (.ireturn, 1) := by decide +kernel
theorem dL_law_896 : decode cL_law 896 = .ok (.goto 1104, 3) := by decide +kernel
theorem dL_law_899 : decode cL_law 899 = .ok (.aload_n 1, 1) := by decide +kernel
theorem dL_law_900 : decode cL_law 900 = .ok (.aload_n 0, 1) := by decide +kernel
theorem dL_law_901 : decode cL_law 901 = .ok (.iload 4, 2) := by decide +kernel
theorem dL_law_903 : decode cL_law 903 = .ok (.iconst 1, 1) := by decide +kernel
theorem dL_law_904 : decode cL_law 904 = .ok (.iadd, 1) := by decide +kernel
theorem dL_law_905 : decode cL_law 905 = .ok (.iaload, 1) := by decide +kernel
theorem dL_law_906 : decode cL_law 906 = .ok (.aload_n 3, 1) := by decide +kernel
theorem dL_law_907 : decode cL_law 907 = .ok (.invokestatic 164, 3) := by decide +kernel
theorem dL_law_910 : decode cL_law 910 = .ok (.istore 5, 2) := by decide +kernel
theorem dL_law_912 : decode cL_law 912 = .ok (.aload_n 2, 1) := by decide +kernel
theorem dL_law_913 : decode cL_law 913 = .ok (.aload_n 0, 1) := by decide +kernel
theorem dL_law_914 : decode cL_law 914 = .ok (.iload 4, 2) := by decide +kernel
theorem dL_law_916 : decode cL_law 916 = .ok (.iconst 1, 1) := by decide +kernel
theorem dL_law_917 : decode cL_law 917 = .ok (.iadd, 1) := by decide +kernel
theorem dL_law_918 : decode cL_law 918 = .ok (.iaload, 1) := by decide +kernel
theorem dL_law_919 : decode cL_law 919 = .ok (.invokevirtual 166, 3) := by decide +kernel
theorem dL_law_922 : decode cL_law 922 = .ok (.istore 6, 2) := by decide +kernel
theorem dL_law_924 : decode cL_law 924 = .ok (.aload_n 2, 1) := by decide +kernel
theorem dL_law_925 : decode cL_law 925 = .ok (.invokevirtual 111, 3) := by decide +kernel
theorem dL_law_928 : decode cL_law 928 = .ok (.iload 5, 2) := by decide +kernel
theorem dL_law_930 : decode cL_law 930 = .ok (.if_icmp .eq 5, 3) := by decide +kernel
theorem dL_law_933 : decode cL_law 933 = .ok (.iconst 0, 1) := by decide +kernel
theorem dL_law_934 : decode cL_law 934 = .ok (.ireturn, 1) := by decide +kernel
theorem dL_law_935 : decode cL_law 935 = .ok (.iload 5, 2) := by decide +kernel
theorem dL_law_937 : decode cL_law 937 = .ok (.ifCond .ne 15, 3) := by decide +kernel
theorem dL_law_940 : decode cL_law 940 = .ok (.aload_n 3, 1) := by decide +kernel
theorem dL_law_941 : decode cL_law 941 = .ok (.iconst 0, 1) := by decide +kernel
theorem dL_law_942 : decode cL_law 942 = .ok (.laload, 1) := by decide +kernel
theorem dL_law_943 : decode cL_law 943 = .ok (.iload 6, 2) := by decide +kernel
theorem dL_law_945 : decode cL_law 945 = .ok (.i2l, 1) := by decide +kernel
theorem dL_law_946 : decode cL_law 946 = .ok (.lcmp, 1) := by decide +kernel
theorem dL_law_947 : decode cL_law 947 = .ok (.ifCond .eq 5, 3) := by decide +kernel
theorem dL_law_950 : decode cL_law 950 = .ok (.iconst 0, 1) := by decide +kernel
theorem dL_law_951 : decode cL_law 951 = .ok (.ireturn, 1) := by decide +kernel
theorem dL_law_952 : decode cL_law 952 = .ok (.goto 1048, 3) := by decide +kernel
theorem dL_law_955 : decode cL_law 955 = .ok (.aload_n 1, 1) := by decide +kernel
theorem dL_law_956 : decode cL_law 956 = .ok (.aload_n 0, 1) := by decide +kernel
theorem dL_law_957 : decode cL_law 957 = .ok (.iload 4, 2) := by decide +kernel
theorem dL_law_959 : decode cL_law 959 = .ok (.iconst 1, 1) := by decide +kernel
theorem dL_law_960 : decode cL_law 960 = .ok (.iadd, 1) := by decide +kernel
theorem dL_law_961 : decode cL_law 961 = .ok (.iaload, 1) := by decide +kernel
theorem dL_law_962 : decode cL_law 962 = .ok (.aload_n 3, 1) := by decide +kernel
theorem dL_law_963 : decode cL_law 963 = .ok (.invokestatic 167, 3) := by decide +kernel
theorem dL_law_966 : decode cL_law 966 = .ok (.istore 5, 2) := by decide +kernel
theorem dL_law_968 : decode cL_law 968 = .ok (.aload_n 2, 1) := by decide +kernel
theorem dL_law_969 : decode cL_law 969 = .ok (.aload_n 0, 1) := by decide +kernel
theorem dL_law_970 : decode cL_law 970 = .ok (.iload 4, 2) := by decide +kernel
theorem dL_law_972 : decode cL_law 972 = .ok (.iconst 1, 1) := by decide +kernel
theorem dL_law_973 : decode cL_law 973 = .ok (.iadd, 1) := by decide +kernel
theorem dL_law_974 : decode cL_law 974 = .ok (.iaload, 1) := by decide +kernel
theorem dL_law_975 : decode cL_law 975 = .ok (.invokevirtual 169, 3) := by decide +kernel
theorem dL_law_978 : decode cL_law 978 = .ok (.istore 6, 2) := by decide +kernel
theorem dL_law_980 : decode cL_law 980 = .ok (.aload_n 2, 1) := by decide +kernel
theorem dL_law_981 : decode cL_law 981 = .ok (.invokevirtual 111, 3) := by decide +kernel
theorem dL_law_984 : decode cL_law 984 = .ok (.iload 5, 2) := by decide +kernel
theorem dL_law_986 : decode cL_law 986 = .ok (.if_icmp .eq 5, 3) := by decide +kernel
theorem dL_law_989 : decode cL_law 989 = .ok (.iconst 0, 1) := by decide +kernel
theorem dL_law_990 : decode cL_law 990 = .ok (.ireturn, 1) := by decide +kernel
theorem dL_law_991 : decode cL_law 991 = .ok (.iload 5, 2) := by decide +kernel
theorem dL_law_993 : decode cL_law 993 = .ok (.ifCond .ne 15, 3) := by decide +kernel
theorem dL_law_996 : decode cL_law 996 = .ok (.aload_n 3, 1) := by decide +kernel
theorem dL_law_997 : decode cL_law 997 = .ok (.iconst 0, 1) := by decide +kernel
theorem dL_law_998 : decode cL_law 998 = .ok (.laload, 1) := by decide +kernel
theorem dL_law_999 : decode cL_law 999 = .ok (.iload 6, 2) := by decide +kernel
theorem dL_law_1001 : decode cL_law 1001 = .ok (.i2l, 1) := by decide +kernel
theorem dL_law_1002 : decode cL_law 1002 = .ok (.lcmp, 1) := by decide +kernel
theorem dL_law_1003 : decode cL_law 1003 = .ok (.ifCond .eq 5, 3) := by decide +kernel
theorem dL_law_1006 : decode cL_law 1006 = .ok (.iconst 0, 1) := by decide +kernel
theorem dL_law_1007 : decode cL_law 1007 = .ok (.ireturn, 1) := by decide +kernel
theorem dL_law_1008 : decode cL_law 1008 = .ok (.goto 992, 3) := by decide +kernel
theorem dL_law_1011 : decode cL_law 1011 = .ok (.aload_n 1, 1) := by decide +kernel
theorem dL_law_1012 : decode cL_law 1012 = .ok (.aload_n 0, 1) := by decide +kernel
theorem dL_law_1013 : decode cL_law 1013 = .ok (.iload 4, 2) := by decide +kernel
theorem dL_law_1015 : decode cL_law 1015 = .ok (.iconst 1, 1) := by decide +kernel
theorem dL_law_1016 : decode cL_law 1016 = .ok (.iadd, 1) := by decide +kernel
theorem dL_law_1017 : decode cL_law 1017 = .ok (.iaload, 1) := by decide +kernel
theorem dL_law_1018 : decode cL_law 1018 = .ok (.aload_n 0, 1) := by decide +kernel
theorem dL_law_1019 : decode cL_law 1019 = .ok (.iload 4, 2) := by decide +kernel
theorem dL_law_1021 : decode cL_law 1021 = .ok (.iconst 2, 1) := by decide +kernel
theorem dL_law_1022 : decode cL_law 1022 = .ok (.iadd, 1) := by decide +kernel
theorem dL_law_1023 : decode cL_law 1023 = .ok (.iaload, 1) := by decide +kernel
theorem dL_law_1024 : decode cL_law 1024 = .ok (.aload_n 3, 1) := by decide +kernel
theorem dL_law_1025 : decode cL_law 1025 = .ok (.invokestatic 170, 3) := by decide +kernel
theorem dL_law_1028 : decode cL_law 1028 = .ok (.istore 5, 2) := by decide +kernel
theorem dL_law_1030 : decode cL_law 1030 = .ok (.aload_n 2, 1) := by decide +kernel
theorem dL_law_1031 : decode cL_law 1031 = .ok (.aload_n 0, 1) := by decide +kernel
theorem dL_law_1032 : decode cL_law 1032 = .ok (.iload 4, 2) := by decide +kernel
theorem dL_law_1034 : decode cL_law 1034 = .ok (.iconst 1, 1) := by decide +kernel
theorem dL_law_1035 : decode cL_law 1035 = .ok (.iadd, 1) := by decide +kernel
theorem dL_law_1036 : decode cL_law 1036 = .ok (.iaload, 1) := by decide +kernel
theorem dL_law_1037 : decode cL_law 1037 = .ok (.aload_n 0, 1) := by decide +kernel
theorem dL_law_1038 : decode cL_law 1038 = .ok (.iload 4, 2) := by decide +kernel
theorem dL_law_1040 : decode cL_law 1040 = .ok (.iconst 2, 1) := by decide +kernel
theorem dL_law_1041 : decode cL_law 1041 = .ok (.iadd, 1) := by decide +kernel
theorem dL_law_1042 : decode cL_law 1042 = .ok (.iaload, 1) := by decide +kernel
theorem dL_law_1043 : decode cL_law 1043 = .ok (.invokevirtual 172, 3) := by decide +kernel
theorem dL_law_1046 : decode cL_law 1046 = .ok (.istore 6, 2) := by decide +kernel
theorem dL_law_1048 : decode cL_law 1048 = .ok (.aload_n 2, 1) := by decide +kernel
theorem dL_law_1049 : decode cL_law 1049 = .ok (.invokevirtual 111, 3) := by decide +kernel
theorem dL_law_1052 : decode cL_law 1052 = .ok (.iload 5, 2) := by decide +kernel
theorem dL_law_1054 : decode cL_law 1054 = .ok (.if_icmp .eq 5, 3) := by decide +kernel
theorem dL_law_1057 : decode cL_law 1057 = .ok (.iconst 0, 1) := by decide +kernel
theorem dL_law_1058 : decode cL_law 1058 = .ok (.ireturn, 1) := by decide +kernel
theorem dL_law_1059 : decode cL_law 1059 = .ok (.iload 5, 2) := by decide +kernel
theorem dL_law_1061 : decode cL_law 1061 = .ok (.ifCond .ne 15, 3) := by decide +kernel
theorem dL_law_1064 : decode cL_law 1064 = .ok (.aload_n 3, 1) := by decide +kernel
theorem dL_law_1065 : decode cL_law 1065 = .ok (.iconst 0, 1) := by decide +kernel
theorem dL_law_1066 : decode cL_law 1066 = .ok (.laload, 1) := by decide +kernel
theorem dL_law_1067 : decode cL_law 1067 = .ok (.iload 6, 2) := by decide +kernel
theorem dL_law_1069 : decode cL_law 1069 = .ok (.i2l, 1) := by decide +kernel
theorem dL_law_1070 : decode cL_law 1070 = .ok (.lcmp, 1) := by decide +kernel
theorem dL_law_1071 : decode cL_law 1071 = .ok (.ifCond .eq 5, 3) := by decide +kernel
theorem dL_law_1074 : decode cL_law 1074 = .ok (.iconst 0, 1) := by decide +kernel
theorem dL_law_1075 : decode cL_law 1075 = .ok (.ireturn, 1) := by decide +kernel
theorem dL_law_1076 : decode cL_law 1076 = .ok (.goto 924, 3) := by decide +kernel
theorem dL_law_1079 : decode cL_law 1079 = .ok (.aload_n 1, 1) := by decide +kernel
theorem dL_law_1080 : decode cL_law 1080 = .ok (.invokevirtual 173, 3) := by decide +kernel
theorem dL_law_1083 : decode cL_law 1083 = .ok (.aload_n 2, 1) := by decide +kernel
theorem dL_law_1084 : decode cL_law 1084 = .ok (.invokevirtual 176, 3) := by decide +kernel
theorem dL_law_1087 : decode cL_law 1087 = .ok (.if_icmp .eq 913, 3) := by decide +kernel
theorem dL_law_1090 : decode cL_law 1090 = .ok (.iconst 0, 1) := by decide +kernel
theorem dL_law_1091 : decode cL_law 1091 = .ok (.ireturn, 1) := by decide +kernel
theorem dL_law_1092 : decode cL_law 1092 = .ok (.aload_n 1, 1) := by decide +kernel
theorem dL_law_1093 : decode cL_law 1093 = .ok (.aload_n 0, 1) := by decide +kernel
theorem dL_law_1094 : decode cL_law 1094 = .ok (.iload 4, 2) := by decide +kernel
theorem dL_law_1096 : decode cL_law 1096 = .ok (.iconst 1, 1) := by decide +kernel
theorem dL_law_1097 : decode cL_law 1097 = .ok (.iadd, 1) := by decide +kernel
theorem dL_law_1098 : decode cL_law 1098 = .ok (.iaload, 1) := by decide +kernel
theorem dL_law_1099 : decode cL_law 1099 = .ok (.aload_n 3, 1) := by decide +kernel
theorem dL_law_1100 : decode cL_law 1100 = .ok (.invokestatic 177, 3) := by decide +kernel
theorem dL_law_1103 : decode cL_law 1103 = .ok (.istore 5, 2) := by decide +kernel
theorem dL_law_1105 : decode cL_law 1105 = .ok (.aload_n 2, 1) := by decide +kernel
theorem dL_law_1106 : decode cL_law 1106 = .ok (.aload_n 0, 1) := by decide +kernel
theorem dL_law_1107 : decode cL_law 1107 = .ok (.iload 4, 2) := by decide +kernel
theorem dL_law_1109 : decode cL_law 1109 = .ok (.iconst 1, 1) := by decide +kernel
theorem dL_law_1110 : decode cL_law 1110 = .ok (.iadd, 1) := by decide +kernel
theorem dL_law_1111 : decode cL_law 1111 = .ok (.iaload, 1) := by decide +kernel
theorem dL_law_1112 : decode cL_law 1112 = .ok (.invokevirtual 179, 3) := by decide +kernel
theorem dL_law_1115 : decode cL_law 1115 = .ok (.istore 6, 2) := by decide +kernel
theorem dL_law_1117 : decode cL_law 1117 = .ok (.aload_n 2, 1) := by decide +kernel
theorem dL_law_1118 : decode cL_law 1118 = .ok (.invokevirtual 111, 3) := by decide +kernel
theorem dL_law_1121 : decode cL_law 1121 = .ok (.iload 5, 2) := by decide +kernel
theorem dL_law_1123 : decode cL_law 1123 = .ok (.if_icmp .eq 5, 3) := by decide +kernel
theorem dL_law_1126 : decode cL_law 1126 = .ok (.iconst 0, 1) := by decide +kernel
theorem dL_law_1127 : decode cL_law 1127 = .ok (.ireturn, 1) := by decide +kernel
theorem dL_law_1128 : decode cL_law 1128 = .ok (.iload 5, 2) := by decide +kernel
theorem dL_law_1130 : decode cL_law 1130 = .ok (.ifCond .ne 15, 3) := by decide +kernel
theorem dL_law_1133 : decode cL_law 1133 = .ok (.aload_n 3, 1) := by decide +kernel
theorem dL_law_1134 : decode cL_law 1134 = .ok (.iconst 0, 1) := by decide +kernel
theorem dL_law_1135 : decode cL_law 1135 = .ok (.laload, 1) := by decide +kernel
theorem dL_law_1136 : decode cL_law 1136 = .ok (.iload 6, 2) := by decide +kernel
theorem dL_law_1138 : decode cL_law 1138 = .ok (.i2l, 1) := by decide +kernel
theorem dL_law_1139 : decode cL_law 1139 = .ok (.lcmp, 1) := by decide +kernel
theorem dL_law_1140 : decode cL_law 1140 = .ok (.ifCond .eq 5, 3) := by decide +kernel
theorem dL_law_1143 : decode cL_law 1143 = .ok (.iconst 0, 1) := by decide +kernel
theorem dL_law_1144 : decode cL_law 1144 = .ok (.ireturn, 1) := by decide +kernel
theorem dL_law_1145 : decode cL_law 1145 = .ok (.goto 855, 3) := by decide +kernel
theorem dL_law_1148 : decode cL_law 1148 = .ok (.aload_n 1, 1) := by decide +kernel
theorem dL_law_1149 : decode cL_law 1149 = .ok (.aload_n 0, 1) := by decide +kernel
theorem dL_law_1150 : decode cL_law 1150 = .ok (.iload 4, 2) := by decide +kernel
theorem dL_law_1152 : decode cL_law 1152 = .ok (.iconst 1, 1) := by decide +kernel
theorem dL_law_1153 : decode cL_law 1153 = .ok (.iadd, 1) := by decide +kernel
theorem dL_law_1154 : decode cL_law 1154 = .ok (.iaload, 1) := by decide +kernel
theorem dL_law_1155 : decode cL_law 1155 = .ok (.aload_n 3, 1) := by decide +kernel
theorem dL_law_1156 : decode cL_law 1156 = .ok (.invokestatic 180, 3) := by decide +kernel
theorem dL_law_1159 : decode cL_law 1159 = .ok (.istore 5, 2) := by decide +kernel
theorem dL_law_1161 : decode cL_law 1161 = .ok (.aload_n 2, 1) := by decide +kernel
theorem dL_law_1162 : decode cL_law 1162 = .ok (.aload_n 0, 1) := by decide +kernel
theorem dL_law_1163 : decode cL_law 1163 = .ok (.iload 4, 2) := by decide +kernel
theorem dL_law_1165 : decode cL_law 1165 = .ok (.iconst 1, 1) := by decide +kernel
theorem dL_law_1166 : decode cL_law 1166 = .ok (.iadd, 1) := by decide +kernel
theorem dL_law_1167 : decode cL_law 1167 = .ok (.iaload, 1) := by decide +kernel
theorem dL_law_1168 : decode cL_law 1168 = .ok (.invokevirtual 182, 3) := by decide +kernel
theorem dL_law_1171 : decode cL_law 1171 = .ok (.istore 6, 2) := by decide +kernel
theorem dL_law_1173 : decode cL_law 1173 = .ok (.aload_n 2, 1) := by decide +kernel
theorem dL_law_1174 : decode cL_law 1174 = .ok (.invokevirtual 111, 3) := by decide +kernel
theorem dL_law_1177 : decode cL_law 1177 = .ok (.iload 5, 2) := by decide +kernel
theorem dL_law_1179 : decode cL_law 1179 = .ok (.if_icmp .eq 5, 3) := by decide +kernel
theorem dL_law_1182 : decode cL_law 1182 = .ok (.iconst 0, 1) := by decide +kernel
theorem dL_law_1183 : decode cL_law 1183 = .ok (.ireturn, 1) := by decide +kernel
theorem dL_law_1184 : decode cL_law 1184 = .ok (.iload 5, 2) := by decide +kernel
theorem dL_law_1186 : decode cL_law 1186 = .ok (.ifCond .ne 15, 3) := by decide +kernel
theorem dL_law_1189 : decode cL_law 1189 = .ok (.aload_n 3, 1) := by decide +kernel
theorem dL_law_1190 : decode cL_law 1190 = .ok (.iconst 0, 1) := by decide +kernel
theorem dL_law_1191 : decode cL_law 1191 = .ok (.laload, 1) := by decide +kernel
theorem dL_law_1192 : decode cL_law 1192 = .ok (.iload 6, 2) := by decide +kernel
theorem dL_law_1194 : decode cL_law 1194 = .ok (.i2l, 1) := by decide +kernel
theorem dL_law_1195 : decode cL_law 1195 = .ok (.lcmp, 1) := by decide +kernel
theorem dL_law_1196 : decode cL_law 1196 = .ok (.ifCond .eq 5, 3) := by decide +kernel
theorem dL_law_1199 : decode cL_law 1199 = .ok (.iconst 0, 1) := by decide +kernel
theorem dL_law_1200 : decode cL_law 1200 = .ok (.ireturn, 1) := by decide +kernel
theorem dL_law_1201 : decode cL_law 1201 = .ok (.goto 799, 3) := by decide +kernel
theorem dL_law_1204 : decode cL_law 1204 = .ok (.aload_n 1, 1) := by decide +kernel
theorem dL_law_1205 : decode cL_law 1205 = .ok (.aload_n 0, 1) := by decide +kernel
theorem dL_law_1206 : decode cL_law 1206 = .ok (.iload 4, 2) := by decide +kernel
theorem dL_law_1208 : decode cL_law 1208 = .ok (.iconst 1, 1) := by decide +kernel
theorem dL_law_1209 : decode cL_law 1209 = .ok (.iadd, 1) := by decide +kernel
theorem dL_law_1210 : decode cL_law 1210 = .ok (.iaload, 1) := by decide +kernel
theorem dL_law_1211 : decode cL_law 1211 = .ok (.aload_n 3, 1) := by decide +kernel
theorem dL_law_1212 : decode cL_law 1212 = .ok (.invokestatic 183, 3) := by decide +kernel
theorem dL_law_1215 : decode cL_law 1215 = .ok (.istore 5, 2) := by decide +kernel
theorem dL_law_1217 : decode cL_law 1217 = .ok (.aload_n 2, 1) := by decide +kernel
theorem dL_law_1218 : decode cL_law 1218 = .ok (.aload_n 0, 1) := by decide +kernel
theorem dL_law_1219 : decode cL_law 1219 = .ok (.iload 4, 2) := by decide +kernel
theorem dL_law_1221 : decode cL_law 1221 = .ok (.iconst 1, 1) := by decide +kernel
theorem dL_law_1222 : decode cL_law 1222 = .ok (.iadd, 1) := by decide +kernel
theorem dL_law_1223 : decode cL_law 1223 = .ok (.iaload, 1) := by decide +kernel
theorem dL_law_1224 : decode cL_law 1224 = .ok (.invokevirtual 185, 3) := by decide +kernel
theorem dL_law_1227 : decode cL_law 1227 = .ok (.istore 6, 2) := by decide +kernel
theorem dL_law_1229 : decode cL_law 1229 = .ok (.aload_n 2, 1) := by decide +kernel
theorem dL_law_1230 : decode cL_law 1230 = .ok (.invokevirtual 111, 3) := by decide +kernel
theorem dL_law_1233 : decode cL_law 1233 = .ok (.iload 5, 2) := by decide +kernel
theorem dL_law_1235 : decode cL_law 1235 = .ok (.if_icmp .eq 5, 3) := by decide +kernel
theorem dL_law_1238 : decode cL_law 1238 = .ok (.iconst 0, 1) := by decide +kernel
theorem dL_law_1239 : decode cL_law 1239 = .ok (.ireturn, 1) := by decide +kernel
theorem dL_law_1240 : decode cL_law 1240 = .ok (.iload 5, 2) := by decide +kernel
theorem dL_law_1242 : decode cL_law 1242 = .ok (.ifCond .ne 15, 3) := by decide +kernel
theorem dL_law_1245 : decode cL_law 1245 = .ok (.aload_n 3, 1) := by decide +kernel
theorem dL_law_1246 : decode cL_law 1246 = .ok (.iconst 0, 1) := by decide +kernel
theorem dL_law_1247 : decode cL_law 1247 = .ok (.laload, 1) := by decide +kernel
theorem dL_law_1248 : decode cL_law 1248 = .ok (.iload 6, 2) := by decide +kernel
theorem dL_law_1250 : decode cL_law 1250 = .ok (.i2l, 1) := by decide +kernel
theorem dL_law_1251 : decode cL_law 1251 = .ok (.lcmp, 1) := by decide +kernel
theorem dL_law_1252 : decode cL_law 1252 = .ok (.ifCond .eq 5, 3) := by decide +kernel
theorem dL_law_1255 : decode cL_law 1255 = .ok (.iconst 0, 1) := by decide +kernel
theorem dL_law_1256 : decode cL_law 1256 = .ok (.ireturn, 1) := by decide +kernel
theorem dL_law_1257 : decode cL_law 1257 = .ok (.goto 743, 3) := by decide +kernel
theorem dL_law_1260 : decode cL_law 1260 = .ok (.aload_n 1, 1) := by decide +kernel
theorem dL_law_1261 : decode cL_law 1261 = .ok (.aload_n 0, 1) := by decide +kernel
theorem dL_law_1262 : decode cL_law 1262 = .ok (.iload 4, 2) := by decide +kernel
theorem dL_law_1264 : decode cL_law 1264 = .ok (.iconst 1, 1) := by decide +kernel
theorem dL_law_1265 : decode cL_law 1265 = .ok (.iadd, 1) := by decide +kernel
theorem dL_law_1266 : decode cL_law 1266 = .ok (.iaload, 1) := by decide +kernel
theorem dL_law_1267 : decode cL_law 1267 = .ok (.aload_n 3, 1) := by decide +kernel
theorem dL_law_1268 : decode cL_law 1268 = .ok (.invokestatic 186, 3) := by decide +kernel
theorem dL_law_1271 : decode cL_law 1271 = .ok (.istore 5, 2) := by decide +kernel
theorem dL_law_1273 : decode cL_law 1273 = .ok (.aload_n 2, 1) := by decide +kernel
theorem dL_law_1274 : decode cL_law 1274 = .ok (.aload_n 0, 1) := by decide +kernel
theorem dL_law_1275 : decode cL_law 1275 = .ok (.iload 4, 2) := by decide +kernel
theorem dL_law_1277 : decode cL_law 1277 = .ok (.iconst 1, 1) := by decide +kernel
theorem dL_law_1278 : decode cL_law 1278 = .ok (.iadd, 1) := by decide +kernel
theorem dL_law_1279 : decode cL_law 1279 = .ok (.iaload, 1) := by decide +kernel
theorem dL_law_1280 : decode cL_law 1280 = .ok (.invokevirtual 188, 3) := by decide +kernel
theorem dL_law_1283 : decode cL_law 1283 = .ok (.istore 6, 2) := by decide +kernel
theorem dL_law_1285 : decode cL_law 1285 = .ok (.aload_n 2, 1) := by decide +kernel
theorem dL_law_1286 : decode cL_law 1286 = .ok (.invokevirtual 111, 3) := by decide +kernel
theorem dL_law_1289 : decode cL_law 1289 = .ok (.iload 5, 2) := by decide +kernel
theorem dL_law_1291 : decode cL_law 1291 = .ok (.if_icmp .eq 5, 3) := by decide +kernel
theorem dL_law_1294 : decode cL_law 1294 = .ok (.iconst 0, 1) := by decide +kernel
theorem dL_law_1295 : decode cL_law 1295 = .ok (.ireturn, 1) := by decide +kernel
theorem dL_law_1296 : decode cL_law 1296 = .ok (.iload 5, 2) := by decide +kernel
theorem dL_law_1298 : decode cL_law 1298 = .ok (.ifCond .ne 15, 3) := by decide +kernel
theorem dL_law_1301 : decode cL_law 1301 = .ok (.aload_n 3, 1) := by decide +kernel
theorem dL_law_1302 : decode cL_law 1302 = .ok (.iconst 0, 1) := by decide +kernel
theorem dL_law_1303 : decode cL_law 1303 = .ok (.laload, 1) := by decide +kernel
theorem dL_law_1304 : decode cL_law 1304 = .ok (.iload 6, 2) := by decide +kernel
theorem dL_law_1306 : decode cL_law 1306 = .ok (.i2l, 1) := by decide +kernel
theorem dL_law_1307 : decode cL_law 1307 = .ok (.lcmp, 1) := by decide +kernel
theorem dL_law_1308 : decode cL_law 1308 = .ok (.ifCond .eq 5, 3) := by decide +kernel
theorem dL_law_1311 : decode cL_law 1311 = .ok (.iconst 0, 1) := by decide +kernel
theorem dL_law_1312 : decode cL_law 1312 = .ok (.ireturn, 1) := by decide +kernel
theorem dL_law_1313 : decode cL_law 1313 = .ok (.goto 687, 3) := by decide +kernel
theorem dL_law_1316 : decode cL_law 1316 = .ok (.aload_n 1, 1) := by decide +kernel
theorem dL_law_1317 : decode cL_law 1317 = .ok (.aload_n 0, 1) := by decide +kernel
theorem dL_law_1318 : decode cL_law 1318 = .ok (.iload 4, 2) := by decide +kernel
theorem dL_law_1320 : decode cL_law 1320 = .ok (.iconst 1, 1) := by decide +kernel
theorem dL_law_1321 : decode cL_law 1321 = .ok (.iadd, 1) := by decide +kernel
theorem dL_law_1322 : decode cL_law 1322 = .ok (.iaload, 1) := by decide +kernel
theorem dL_law_1323 : decode cL_law 1323 = .ok (.aload_n 3, 1) := by decide +kernel
theorem dL_law_1324 : decode cL_law 1324 = .ok (.invokestatic 189, 3) := by decide +kernel
theorem dL_law_1327 : decode cL_law 1327 = .ok (.istore 5, 2) := by decide +kernel
theorem dL_law_1329 : decode cL_law 1329 = .ok (.aload_n 2, 1) := by decide +kernel
theorem dL_law_1330 : decode cL_law 1330 = .ok (.aload_n 0, 1) := by decide +kernel
theorem dL_law_1331 : decode cL_law 1331 = .ok (.iload 4, 2) := by decide +kernel
theorem dL_law_1333 : decode cL_law 1333 = .ok (.iconst 1, 1) := by decide +kernel
theorem dL_law_1334 : decode cL_law 1334 = .ok (.iadd, 1) := by decide +kernel
theorem dL_law_1335 : decode cL_law 1335 = .ok (.iaload, 1) := by decide +kernel
theorem dL_law_1336 : decode cL_law 1336 = .ok (.invokevirtual 191, 3) := by decide +kernel
theorem dL_law_1339 : decode cL_law 1339 = .ok (.istore 6, 2) := by decide +kernel
theorem dL_law_1341 : decode cL_law 1341 = .ok (.aload_n 2, 1) := by decide +kernel
theorem dL_law_1342 : decode cL_law 1342 = .ok (.invokevirtual 111, 3) := by decide +kernel
theorem dL_law_1345 : decode cL_law 1345 = .ok (.iload 5, 2) := by decide +kernel
theorem dL_law_1347 : decode cL_law 1347 = .ok (.if_icmp .eq 5, 3) := by decide +kernel
theorem dL_law_1350 : decode cL_law 1350 = .ok (.iconst 0, 1) := by decide +kernel
theorem dL_law_1351 : decode cL_law 1351 = .ok (.ireturn, 1) := by decide +kernel
theorem dL_law_1352 : decode cL_law 1352 = .ok (.iload 5, 2) := by decide +kernel
theorem dL_law_1354 : decode cL_law 1354 = .ok (.ifCond .ne 15, 3) := by decide +kernel
theorem dL_law_1357 : decode cL_law 1357 = .ok (.aload_n 3, 1) := by decide +kernel
theorem dL_law_1358 : decode cL_law 1358 = .ok (.iconst 0, 1) := by decide +kernel
theorem dL_law_1359 : decode cL_law 1359 = .ok (.laload, 1) := by decide +kernel
theorem dL_law_1360 : decode cL_law 1360 = .ok (.iload 6, 2) := by decide +kernel
theorem dL_law_1362 : decode cL_law 1362 = .ok (.i2l, 1) := by decide +kernel
theorem dL_law_1363 : decode cL_law 1363 = .ok (.lcmp, 1) := by decide +kernel
theorem dL_law_1364 : decode cL_law 1364 = .ok (.ifCond .eq 5, 3) := by decide +kernel
theorem dL_law_1367 : decode cL_law 1367 = .ok (.iconst 0, 1) := by decide +kernel
theorem dL_law_1368 : decode cL_law 1368 = .ok (.ireturn, 1) := by decide +kernel
theorem dL_law_1369 : decode cL_law 1369 = .ok (.goto 631, 3) := by decide +kernel
theorem dL_law_1372 : decode cL_law 1372 = .ok (.aload_n 1, 1) := by decide +kernel
theorem dL_law_1373 : decode cL_law 1373 = .ok (.aload_n 0, 1) := by decide +kernel
theorem dL_law_1374 : decode cL_law 1374 = .ok (.iload 4, 2) := by decide +kernel
theorem dL_law_1376 : decode cL_law 1376 = .ok (.iconst 1, 1) := by decide +kernel
theorem dL_law_1377 : decode cL_law 1377 = .ok (.iadd, 1) := by decide +kernel
theorem dL_law_1378 : decode cL_law 1378 = .ok (.iaload, 1) := by decide +kernel
theorem dL_law_1379 : decode cL_law 1379 = .ok (.aload_n 3, 1) := by decide +kernel
theorem dL_law_1380 : decode cL_law 1380 = .ok (.invokestatic 192, 3) := by decide +kernel
theorem dL_law_1383 : decode cL_law 1383 = .ok (.istore 5, 2) := by decide +kernel
theorem dL_law_1385 : decode cL_law 1385 = .ok (.aload_n 2, 1) := by decide +kernel
theorem dL_law_1386 : decode cL_law 1386 = .ok (.aload_n 0, 1) := by decide +kernel
theorem dL_law_1387 : decode cL_law 1387 = .ok (.iload 4, 2) := by decide +kernel
theorem dL_law_1389 : decode cL_law 1389 = .ok (.iconst 1, 1) := by decide +kernel
theorem dL_law_1390 : decode cL_law 1390 = .ok (.iadd, 1) := by decide +kernel
theorem dL_law_1391 : decode cL_law 1391 = .ok (.iaload, 1) := by decide +kernel
theorem dL_law_1392 : decode cL_law 1392 = .ok (.invokevirtual 194, 3) := by decide +kernel
theorem dL_law_1395 : decode cL_law 1395 = .ok (.istore 6, 2) := by decide +kernel
theorem dL_law_1397 : decode cL_law 1397 = .ok (.aload_n 2, 1) := by decide +kernel
theorem dL_law_1398 : decode cL_law 1398 = .ok (.invokevirtual 111, 3) := by decide +kernel
theorem dL_law_1401 : decode cL_law 1401 = .ok (.iload 5, 2) := by decide +kernel
theorem dL_law_1403 : decode cL_law 1403 = .ok (.if_icmp .eq 5, 3) := by decide +kernel
theorem dL_law_1406 : decode cL_law 1406 = .ok (.iconst 0, 1) := by decide +kernel
theorem dL_law_1407 : decode cL_law 1407 = .ok (.ireturn, 1) := by decide +kernel
theorem dL_law_1408 : decode cL_law 1408 = .ok (.iload 5, 2) := by decide +kernel
theorem dL_law_1410 : decode cL_law 1410 = .ok (.ifCond .ne 15, 3) := by decide +kernel
theorem dL_law_1413 : decode cL_law 1413 = .ok (.aload_n 3, 1) := by decide +kernel
theorem dL_law_1414 : decode cL_law 1414 = .ok (.iconst 0, 1) := by decide +kernel
theorem dL_law_1415 : decode cL_law 1415 = .ok (.laload, 1) := by decide +kernel
theorem dL_law_1416 : decode cL_law 1416 = .ok (.iload 6, 2) := by decide +kernel
theorem dL_law_1418 : decode cL_law 1418 = .ok (.i2l, 1) := by decide +kernel
theorem dL_law_1419 : decode cL_law 1419 = .ok (.lcmp, 1) := by decide +kernel
theorem dL_law_1420 : decode cL_law 1420 = .ok (.ifCond .eq 5, 3) := by decide +kernel
theorem dL_law_1423 : decode cL_law 1423 = .ok (.iconst 0, 1) := by decide +kernel
theorem dL_law_1424 : decode cL_law 1424 = .ok (.ireturn, 1) := by decide +kernel
theorem dL_law_1425 : decode cL_law 1425 = .ok (.goto 575, 3) := by decide +kernel
theorem dL_law_1428 : decode cL_law 1428 = .ok (.aload_n 1, 1) := by decide +kernel
theorem dL_law_1429 : decode cL_law 1429 = .ok (.aload_n 0, 1) := by decide +kernel
theorem dL_law_1430 : decode cL_law 1430 = .ok (.iload 4, 2) := by decide +kernel
theorem dL_law_1432 : decode cL_law 1432 = .ok (.iconst 1, 1) := by decide +kernel
theorem dL_law_1433 : decode cL_law 1433 = .ok (.iadd, 1) := by decide +kernel
theorem dL_law_1434 : decode cL_law 1434 = .ok (.iaload, 1) := by decide +kernel
theorem dL_law_1435 : decode cL_law 1435 = .ok (.aload_n 3, 1) := by decide +kernel
theorem dL_law_1436 : decode cL_law 1436 = .ok (.invokestatic 195, 3) := by decide +kernel
theorem dL_law_1439 : decode cL_law 1439 = .ok (.istore 5, 2) := by decide +kernel
theorem dL_law_1441 : decode cL_law 1441 = .ok (.aload_n 2, 1) := by decide +kernel
theorem dL_law_1442 : decode cL_law 1442 = .ok (.aload_n 0, 1) := by decide +kernel
theorem dL_law_1443 : decode cL_law 1443 = .ok (.iload 4, 2) := by decide +kernel
theorem dL_law_1445 : decode cL_law 1445 = .ok (.iconst 1, 1) := by decide +kernel
theorem dL_law_1446 : decode cL_law 1446 = .ok (.iadd, 1) := by decide +kernel
theorem dL_law_1447 : decode cL_law 1447 = .ok (.iaload, 1) := by decide +kernel
theorem dL_law_1448 : decode cL_law 1448 = .ok (.invokevirtual 197, 3) := by decide +kernel
theorem dL_law_1451 : decode cL_law 1451 = .ok (.istore 6, 2) := by decide +kernel
theorem dL_law_1453 : decode cL_law 1453 = .ok (.aload_n 2, 1) := by decide +kernel
theorem dL_law_1454 : decode cL_law 1454 = .ok (.invokevirtual 111, 3) := by decide +kernel
theorem dL_law_1457 : decode cL_law 1457 = .ok (.iload 5, 2) := by decide +kernel
theorem dL_law_1459 : decode cL_law 1459 = .ok (.if_icmp .eq 5, 3) := by decide +kernel
theorem dL_law_1462 : decode cL_law 1462 = .ok (.iconst 0, 1) := by decide +kernel
theorem dL_law_1463 : decode cL_law 1463 = .ok (.ireturn, 1) := by decide +kernel
theorem dL_law_1464 : decode cL_law 1464 = .ok (.iload 5, 2) := by decide +kernel
theorem dL_law_1466 : decode cL_law 1466 = .ok (.ifCond .ne 15, 3) := by decide +kernel
theorem dL_law_1469 : decode cL_law 1469 = .ok (.aload_n 3, 1) := by decide +kernel
theorem dL_law_1470 : decode cL_law 1470 = .ok (.iconst 0, 1) := by decide +kernel
theorem dL_law_1471 : decode cL_law 1471 = .ok (.laload, 1) := by decide +kernel
theorem dL_law_1472 : decode cL_law 1472 = .ok (.iload 6, 2) := by decide +kernel
theorem dL_law_1474 : decode cL_law 1474 = .ok (.i2l, 1) := by decide +kernel
theorem dL_law_1475 : decode cL_law 1475 = .ok (.lcmp, 1) := by decide +kernel
theorem dL_law_1476 : decode cL_law 1476 = .ok (.ifCond .eq 5, 3) := by decide +kernel
theorem dL_law_1479 : decode cL_law 1479 = .ok (.iconst 0, 1) := by decide +kernel
theorem dL_law_1480 : decode cL_law 1480 = .ok (.ireturn, 1) := by decide +kernel
theorem dL_law_1481 : decode cL_law 1481 = .ok (.goto 519, 3) := by decide +kernel
theorem dL_law_1484 : decode cL_law 1484 = .ok (.aload_n 1, 1) := by decide +kernel
theorem dL_law_1485 : decode cL_law 1485 = .ok (.aload_n 0, 1) := by decide +kernel
theorem dL_law_1486 : decode cL_law 1486 = .ok (.iload 4, 2) := by decide +kernel
theorem dL_law_1488 : decode cL_law 1488 = .ok (.iconst 1, 1) := by decide +kernel
theorem dL_law_1489 : decode cL_law 1489 = .ok (.iadd, 1) := by decide +kernel
theorem dL_law_1490 : decode cL_law 1490 = .ok (.iaload, 1) := by decide +kernel
theorem dL_law_1491 : decode cL_law 1491 = .ok (.aload_n 3, 1) := by decide +kernel
theorem dL_law_1492 : decode cL_law 1492 = .ok (.invokestatic 198, 3) := by decide +kernel
theorem dL_law_1495 : decode cL_law 1495 = .ok (.istore 5, 2) := by decide +kernel
theorem dL_law_1497 : decode cL_law 1497 = .ok (.aload_n 2, 1) := by decide +kernel
theorem dL_law_1498 : decode cL_law 1498 = .ok (.aload_n 0, 1) := by decide +kernel
theorem dL_law_1499 : decode cL_law 1499 = .ok (.iload 4, 2) := by decide +kernel
theorem dL_law_1501 : decode cL_law 1501 = .ok (.iconst 1, 1) := by decide +kernel
theorem dL_law_1502 : decode cL_law 1502 = .ok (.iadd, 1) := by decide +kernel
theorem dL_law_1503 : decode cL_law 1503 = .ok (.iaload, 1) := by decide +kernel
theorem dL_law_1504 : decode cL_law 1504 = .ok (.invokevirtual 200, 3) := by decide +kernel
theorem dL_law_1507 : decode cL_law 1507 = .ok (.istore 6, 2) := by decide +kernel
theorem dL_law_1509 : decode cL_law 1509 = .ok (.aload_n 2, 1) := by decide +kernel
theorem dL_law_1510 : decode cL_law 1510 = .ok (.invokevirtual 111, 3) := by decide +kernel
theorem dL_law_1513 : decode cL_law 1513 = .ok (.iload 5, 2) := by decide +kernel
theorem dL_law_1515 : decode cL_law 1515 = .ok (.if_icmp .eq 5, 3) := by decide +kernel
theorem dL_law_1518 : decode cL_law 1518 = .ok (.iconst 0, 1) := by decide +kernel
theorem dL_law_1519 : decode cL_law 1519 = .ok (.ireturn, 1) := by decide +kernel
theorem dL_law_1520 : decode cL_law 1520 = .ok (.iload 5, 2) := by decide +kernel
theorem dL_law_1522 : decode cL_law 1522 = .ok (.ifCond .ne 15, 3) := by decide +kernel
theorem dL_law_1525 : decode cL_law 1525 = .ok (.aload_n 3, 1) := by decide +kernel
theorem dL_law_1526 : decode cL_law 1526 = .ok (.iconst 0, 1) := by decide +kernel
theorem dL_law_1527 : decode cL_law 1527 = .ok (.laload, 1) := by decide +kernel
theorem dL_law_1528 : decode cL_law 1528 = .ok (.iload 6, 2) := by decide +kernel
theorem dL_law_1530 : decode cL_law 1530 = .ok (.i2l, 1) := by decide +kernel
theorem dL_law_1531 : decode cL_law 1531 = .ok (.lcmp, 1) := by decide +kernel
theorem dL_law_1532 : decode cL_law 1532 = .ok (.ifCond .eq 5, 3) := by decide +kernel
theorem dL_law_1535 : decode cL_law 1535 = .ok (.iconst 0, 1) := by decide +kernel
theorem dL_law_1536 : decode cL_law 1536 = .ok (.ireturn, 1) := by decide +kernel
theorem dL_law_1537 : decode cL_law 1537 = .ok (.goto 463, 3) := by decide +kernel
theorem dL_law_1540 : decode cL_law 1540 = .ok (.aload_n 1, 1) := by decide +kernel
theorem dL_law_1541 : decode cL_law 1541 = .ok (.invokevirtual 201, 3) := by decide +kernel
theorem dL_law_1544 : decode cL_law 1544 = .ok (.aload_n 2, 1) := by decide +kernel
theorem dL_law_1545 : decode cL_law 1545 = .ok (.invokevirtual 204, 3) := by decide +kernel
theorem dL_law_1548 : decode cL_law 1548 = .ok (.if_icmp .eq 452, 3) := by decide +kernel
theorem dL_law_1551 : decode cL_law 1551 = .ok (.iconst 0, 1) := by decide +kernel
theorem dL_law_1552 : decode cL_law 1552 = .ok (.ireturn, 1) := by decide +kernel
theorem dL_law_1553 : decode cL_law 1553 = .ok (.aload_n 1, 1) := by decide +kernel
theorem dL_law_1554 : decode cL_law 1554 = .ok (.invokevirtual 205, 3) := by decide +kernel
theorem dL_law_1557 : decode cL_law 1557 = .ok (.aload_n 2, 1) := by decide +kernel
theorem dL_law_1558 : decode cL_law 1558 = .ok (.invokevirtual 208, 3) := by decide +kernel
theorem dL_law_1561 : decode cL_law 1561 = .ok (.if_icmp .eq 439, 3) := by decide +kernel
theorem dL_law_1564 : decode cL_law 1564 = .ok (.iconst 0, 1) := by decide +kernel
theorem dL_law_1565 : decode cL_law 1565 = .ok (.ireturn, 1) := by decide +kernel
theorem dL_law_1566 : decode cL_law 1566 = .ok (.aload_n 1, 1) := by decide +kernel
theorem dL_law_1567 : decode cL_law 1567 = .ok (.aload_n 0, 1) := by decide +kernel
theorem dL_law_1568 : decode cL_law 1568 = .ok (.iload 4, 2) := by decide +kernel
theorem dL_law_1570 : decode cL_law 1570 = .ok (.iconst 1, 1) := by decide +kernel
theorem dL_law_1571 : decode cL_law 1571 = .ok (.iadd, 1) := by decide +kernel
theorem dL_law_1572 : decode cL_law 1572 = .ok (.iaload, 1) := by decide +kernel
theorem dL_law_1573 : decode cL_law 1573 = .ok (.aload_n 3, 1) := by decide +kernel
theorem dL_law_1574 : decode cL_law 1574 = .ok (.invokestatic 209, 3) := by decide +kernel
theorem dL_law_1577 : decode cL_law 1577 = .ok (.istore 5, 2) := by decide +kernel
theorem dL_law_1579 : decode cL_law 1579 = .ok (.aload_n 2, 1) := by decide +kernel
theorem dL_law_1580 : decode cL_law 1580 = .ok (.aload_n 0, 1) := by decide +kernel
theorem dL_law_1581 : decode cL_law 1581 = .ok (.iload 4, 2) := by decide +kernel
theorem dL_law_1583 : decode cL_law 1583 = .ok (.iconst 1, 1) := by decide +kernel
theorem dL_law_1584 : decode cL_law 1584 = .ok (.iadd, 1) := by decide +kernel
theorem dL_law_1585 : decode cL_law 1585 = .ok (.iaload, 1) := by decide +kernel
theorem dL_law_1586 : decode cL_law 1586 = .ok (.invokevirtual 211, 3) := by decide +kernel
theorem dL_law_1589 : decode cL_law 1589 = .ok (.istore 6, 2) := by decide +kernel
theorem dL_law_1591 : decode cL_law 1591 = .ok (.aload_n 2, 1) := by decide +kernel
theorem dL_law_1592 : decode cL_law 1592 = .ok (.invokevirtual 111, 3) := by decide +kernel
theorem dL_law_1595 : decode cL_law 1595 = .ok (.iload 5, 2) := by decide +kernel
theorem dL_law_1597 : decode cL_law 1597 = .ok (.if_icmp .eq 5, 3) := by decide +kernel
theorem dL_law_1600 : decode cL_law 1600 = .ok (.iconst 0, 1) := by decide +kernel
theorem dL_law_1601 : decode cL_law 1601 = .ok (.ireturn, 1) := by decide +kernel
theorem dL_law_1602 : decode cL_law 1602 = .ok (.iload 5, 2) := by decide +kernel
theorem dL_law_1604 : decode cL_law 1604 = .ok (.ifCond .ne 15, 3) := by decide +kernel
theorem dL_law_1607 : decode cL_law 1607 = .ok (.aload_n 3, 1) := by decide +kernel
theorem dL_law_1608 : decode cL_law 1608 = .ok (.iconst 0, 1) := by decide +kernel
theorem dL_law_1609 : decode cL_law 1609 = .ok (.laload, 1) := by decide +kernel
theorem dL_law_1610 : decode cL_law 1610 = .ok (.iload 6, 2) := by decide +kernel
theorem dL_law_1612 : decode cL_law 1612 = .ok (.i2l, 1) := by decide +kernel
theorem dL_law_1613 : decode cL_law 1613 = .ok (.lcmp, 1) := by decide +kernel
theorem dL_law_1614 : decode cL_law 1614 = .ok (.ifCond .eq 5, 3) := by decide +kernel
theorem dL_law_1617 : decode cL_law 1617 = .ok (.iconst 0, 1) := by decide +kernel
theorem dL_law_1618 : decode cL_law 1618 = .ok (.ireturn, 1) := by decide +kernel
theorem dL_law_1619 : decode cL_law 1619 = .ok (.goto 381, 3) := by decide +kernel
theorem dL_law_1622 : decode cL_law 1622 = .ok (.aload_n 1, 1) := by decide +kernel
theorem dL_law_1623 : decode cL_law 1623 = .ok (.aload_n 0, 1) := by decide +kernel
theorem dL_law_1624 : decode cL_law 1624 = .ok (.iload 4, 2) := by decide +kernel
theorem dL_law_1626 : decode cL_law 1626 = .ok (.iconst 1, 1) := by decide +kernel
theorem dL_law_1627 : decode cL_law 1627 = .ok (.iadd, 1) := by decide +kernel
theorem dL_law_1628 : decode cL_law 1628 = .ok (.iaload, 1) := by decide +kernel
theorem dL_law_1629 : decode cL_law 1629 = .ok (.aload_n 0, 1) := by decide +kernel
theorem dL_law_1630 : decode cL_law 1630 = .ok (.iload 4, 2) := by decide +kernel
theorem dL_law_1632 : decode cL_law 1632 = .ok (.iconst 2, 1) := by decide +kernel
theorem dL_law_1633 : decode cL_law 1633 = .ok (.iadd, 1) := by decide +kernel
theorem dL_law_1634 : decode cL_law 1634 = .ok (.iaload, 1) := by decide +kernel
theorem dL_law_1635 : decode cL_law 1635 = .ok (.aload_n 3, 1) := by decide +kernel
theorem dL_law_1636 : decode cL_law 1636 = .ok (.invokestatic 212, 3) := by decide +kernel
theorem dL_law_1639 : decode cL_law 1639 = .ok (.istore 5, 2) := by decide +kernel
theorem dL_law_1641 : decode cL_law 1641 = .ok (.aload_n 2, 1) := by decide +kernel
theorem dL_law_1642 : decode cL_law 1642 = .ok (.aload_n 0, 1) := by decide +kernel
theorem dL_law_1643 : decode cL_law 1643 = .ok (.iload 4, 2) := by decide +kernel
theorem dL_law_1645 : decode cL_law 1645 = .ok (.iconst 1, 1) := by decide +kernel
theorem dL_law_1646 : decode cL_law 1646 = .ok (.iadd, 1) := by decide +kernel
theorem dL_law_1647 : decode cL_law 1647 = .ok (.iaload, 1) := by decide +kernel
theorem dL_law_1648 : decode cL_law 1648 = .ok (.aload_n 0, 1) := by decide +kernel
theorem dL_law_1649 : decode cL_law 1649 = .ok (.iload 4, 2) := by decide +kernel
theorem dL_law_1651 : decode cL_law 1651 = .ok (.iconst 2, 1) := by decide +kernel
theorem dL_law_1652 : decode cL_law 1652 = .ok (.iadd, 1) := by decide +kernel
theorem dL_law_1653 : decode cL_law 1653 = .ok (.iaload, 1) := by decide +kernel
theorem dL_law_1654 : decode cL_law 1654 = .ok (.invokevirtual 214, 3) := by decide +kernel
theorem dL_law_1657 : decode cL_law 1657 = .ok (.istore 6, 2) := by decide +kernel
theorem dL_law_1659 : decode cL_law 1659 = .ok (.aload_n 2, 1) := by decide +kernel
theorem dL_law_1660 : decode cL_law 1660 = .ok (.invokevirtual 111, 3) := by decide +kernel
theorem dL_law_1663 : decode cL_law 1663 = .ok (.iload 5, 2) := by decide +kernel
theorem dL_law_1665 : decode cL_law 1665 = .ok (.if_icmp .eq 5, 3) := by decide +kernel
theorem dL_law_1668 : decode cL_law 1668 = .ok (.iconst 0, 1) := by decide +kernel
theorem dL_law_1669 : decode cL_law 1669 = .ok (.ireturn, 1) := by decide +kernel
theorem dL_law_1670 : decode cL_law 1670 = .ok (.iload 5, 2) := by decide +kernel
theorem dL_law_1672 : decode cL_law 1672 = .ok (.ifCond .ne 22, 3) := by decide +kernel
theorem dL_law_1675 : decode cL_law 1675 = .ok (.aload_n 3, 1) := by decide +kernel
theorem dL_law_1676 : decode cL_law 1676 = .ok (.iconst 0, 1) := by decide +kernel
theorem dL_law_1677 : decode cL_law 1677 = .ok (.laload, 1) := by decide +kernel
theorem dL_law_1678 : decode cL_law 1678 = .ok (.iload 6, 2) := by decide +kernel
theorem dL_law_1680 : decode cL_law 1680 = .ok (.ifCond .eq 7, 3) := by decide +kernel
theorem dL_law_1683 : decode cL_law 1683 = .ok (.lconst 1, 1) := by decide +kernel
theorem dL_law_1684 : decode cL_law 1684 = .ok (.goto 4, 3) := by decide +kernel
theorem dL_law_1687 : decode cL_law 1687 = .ok (.lconst 0, 1) := by decide +kernel
theorem dL_law_1688 : decode cL_law 1688 = .ok (.lcmp, 1) := by decide +kernel
theorem dL_law_1689 : decode cL_law 1689 = .ok (.ifCond .eq 5, 3) := by decide +kernel
theorem dL_law_1692 : decode cL_law 1692 = .ok (.iconst 0, 1) := by decide +kernel
theorem dL_law_1693 : decode cL_law 1693 = .ok (.ireturn, 1) := by decide +kernel
theorem dL_law_1694 : decode cL_law 1694 = .ok (.goto 306, 3) := by decide +kernel
theorem dL_law_1697 : decode cL_law 1697 = .ok (.aload_n 1, 1) := by decide +kernel
theorem dL_law_1698 : decode cL_law 1698 = .ok (.aload_n 0, 1) := by decide +kernel
theorem dL_law_1699 : decode cL_law 1699 = .ok (.iload 4, 2) := by decide +kernel
theorem dL_law_1701 : decode cL_law 1701 = .ok (.iconst 1, 1) := by decide +kernel
theorem dL_law_1702 : decode cL_law 1702 = .ok (.iadd, 1) := by decide +kernel
theorem dL_law_1703 : decode cL_law 1703 = .ok (.iaload, 1) := by decide +kernel
theorem dL_law_1704 : decode cL_law 1704 = .ok (.aload_n 0, 1) := by decide +kernel
theorem dL_law_1705 : decode cL_law 1705 = .ok (.iload 4, 2) := by decide +kernel
theorem dL_law_1707 : decode cL_law 1707 = .ok (.iconst 2, 1) := by decide +kernel
theorem dL_law_1708 : decode cL_law 1708 = .ok (.iadd, 1) := by decide +kernel
theorem dL_law_1709 : decode cL_law 1709 = .ok (.iaload, 1) := by decide +kernel
theorem dL_law_1710 : decode cL_law 1710 = .ok (.aload_n 3, 1) := by decide +kernel
theorem dL_law_1711 : decode cL_law 1711 = .ok (.invokestatic 215, 3) := by decide +kernel
theorem dL_law_1714 : decode cL_law 1714 = .ok (.istore 5, 2) := by decide +kernel
theorem dL_law_1716 : decode cL_law 1716 = .ok (.aload_n 2, 1) := by decide +kernel
theorem dL_law_1717 : decode cL_law 1717 = .ok (.aload_n 0, 1) := by decide +kernel
theorem dL_law_1718 : decode cL_law 1718 = .ok (.iload 4, 2) := by decide +kernel
theorem dL_law_1720 : decode cL_law 1720 = .ok (.iconst 1, 1) := by decide +kernel
theorem dL_law_1721 : decode cL_law 1721 = .ok (.iadd, 1) := by decide +kernel
theorem dL_law_1722 : decode cL_law 1722 = .ok (.iaload, 1) := by decide +kernel
theorem dL_law_1723 : decode cL_law 1723 = .ok (.aload_n 0, 1) := by decide +kernel
theorem dL_law_1724 : decode cL_law 1724 = .ok (.iload 4, 2) := by decide +kernel
theorem dL_law_1726 : decode cL_law 1726 = .ok (.iconst 2, 1) := by decide +kernel
theorem dL_law_1727 : decode cL_law 1727 = .ok (.iadd, 1) := by decide +kernel
theorem dL_law_1728 : decode cL_law 1728 = .ok (.iaload, 1) := by decide +kernel
theorem dL_law_1729 : decode cL_law 1729 = .ok (.invokevirtual 217, 3) := by decide +kernel
theorem dL_law_1732 : decode cL_law 1732 = .ok (.istore 6, 2) := by decide +kernel
theorem dL_law_1734 : decode cL_law 1734 = .ok (.aload_n 2, 1) := by decide +kernel
theorem dL_law_1735 : decode cL_law 1735 = .ok (.invokevirtual 111, 3) := by decide +kernel
theorem dL_law_1738 : decode cL_law 1738 = .ok (.iload 5, 2) := by decide +kernel
theorem dL_law_1740 : decode cL_law 1740 = .ok (.if_icmp .eq 5, 3) := by decide +kernel
theorem dL_law_1743 : decode cL_law 1743 = .ok (.iconst 0, 1) := by decide +kernel
theorem dL_law_1744 : decode cL_law 1744 = .ok (.ireturn, 1) := by decide +kernel
theorem dL_law_1745 : decode cL_law 1745 = .ok (.iload 5, 2) := by decide +kernel
theorem dL_law_1747 : decode cL_law 1747 = .ok (.ifCond .ne 15, 3) := by decide +kernel
theorem dL_law_1750 : decode cL_law 1750 = .ok (.aload_n 3, 1) := by decide +kernel
theorem dL_law_1751 : decode cL_law 1751 = .ok (.iconst 0, 1) := by decide +kernel
theorem dL_law_1752 : decode cL_law 1752 = .ok (.laload, 1) := by decide +kernel
theorem dL_law_1753 : decode cL_law 1753 = .ok (.iload 6, 2) := by decide +kernel
theorem dL_law_1755 : decode cL_law 1755 = .ok (.i2l, 1) := by decide +kernel
theorem dL_law_1756 : decode cL_law 1756 = .ok (.lcmp, 1) := by decide +kernel
theorem dL_law_1757 : decode cL_law 1757 = .ok (.ifCond .eq 5, 3) := by decide +kernel
theorem dL_law_1760 : decode cL_law 1760 = .ok (.iconst 0, 1) := by decide +kernel
theorem dL_law_1761 : decode cL_law 1761 = .ok (.ireturn, 1) := by decide +kernel
theorem dL_law_1762 : decode cL_law 1762 = .ok (.goto 238, 3) := by decide +kernel
theorem dL_law_1765 : decode cL_law 1765 = .ok (.aload_n 1, 1) := by decide +kernel
theorem dL_law_1766 : decode cL_law 1766 = .ok (.aload_n 0, 1) := by decide +kernel
theorem dL_law_1767 : decode cL_law 1767 = .ok (.iload 4, 2) := by decide +kernel
theorem dL_law_1769 : decode cL_law 1769 = .ok (.iconst 1, 1) := by decide +kernel
theorem dL_law_1770 : decode cL_law 1770 = .ok (.iadd, 1) := by decide +kernel
theorem dL_law_1771 : decode cL_law 1771 = .ok (.iaload, 1) := by decide +kernel
theorem dL_law_1772 : decode cL_law 1772 = .ok (.aload_n 3, 1) := by decide +kernel
theorem dL_law_1773 : decode cL_law 1773 = .ok (.invokestatic 218, 3) := by decide +kernel
theorem dL_law_1776 : decode cL_law 1776 = .ok (.istore 5, 2) := by decide +kernel
theorem dL_law_1778 : decode cL_law 1778 = .ok (.aload_n 2, 1) := by decide +kernel
theorem dL_law_1779 : decode cL_law 1779 = .ok (.aload_n 0, 1) := by decide +kernel
theorem dL_law_1780 : decode cL_law 1780 = .ok (.iload 4, 2) := by decide +kernel
theorem dL_law_1782 : decode cL_law 1782 = .ok (.iconst 1, 1) := by decide +kernel
theorem dL_law_1783 : decode cL_law 1783 = .ok (.iadd, 1) := by decide +kernel
theorem dL_law_1784 : decode cL_law 1784 = .ok (.iaload, 1) := by decide +kernel
theorem dL_law_1785 : decode cL_law 1785 = .ok (.invokevirtual 220, 3) := by decide +kernel
theorem dL_law_1788 : decode cL_law 1788 = .ok (.istore 6, 2) := by decide +kernel
theorem dL_law_1790 : decode cL_law 1790 = .ok (.aload_n 2, 1) := by decide +kernel
theorem dL_law_1791 : decode cL_law 1791 = .ok (.invokevirtual 111, 3) := by decide +kernel
theorem dL_law_1794 : decode cL_law 1794 = .ok (.iload 5, 2) := by decide +kernel
theorem dL_law_1796 : decode cL_law 1796 = .ok (.if_icmp .eq 5, 3) := by decide +kernel
theorem dL_law_1799 : decode cL_law 1799 = .ok (.iconst 0, 1) := by decide +kernel
theorem dL_law_1800 : decode cL_law 1800 = .ok (.ireturn, 1) := by decide +kernel
theorem dL_law_1801 : decode cL_law 1801 = .ok (.iload 5, 2) := by decide +kernel
theorem dL_law_1803 : decode cL_law 1803 = .ok (.ifCond .ne 15, 3) := by decide +kernel
theorem dL_law_1806 : decode cL_law 1806 = .ok (.aload_n 3, 1) := by decide +kernel
theorem dL_law_1807 : decode cL_law 1807 = .ok (.iconst 0, 1) := by decide +kernel
theorem dL_law_1808 : decode cL_law 1808 = .ok (.laload, 1) := by decide +kernel
theorem dL_law_1809 : decode cL_law 1809 = .ok (.iload 6, 2) := by decide +kernel
theorem dL_law_1811 : decode cL_law 1811 = .ok (.i2l, 1) := by decide +kernel
theorem dL_law_1812 : decode cL_law 1812 = .ok (.lcmp, 1) := by decide +kernel
theorem dL_law_1813 : decode cL_law 1813 = .ok (.ifCond .eq 5, 3) := by decide +kernel
theorem dL_law_1816 : decode cL_law 1816 = .ok (.iconst 0, 1) := by decide +kernel
theorem dL_law_1817 : decode cL_law 1817 = .ok (.ireturn, 1) := by decide +kernel
theorem dL_law_1818 : decode cL_law 1818 = .ok (.goto 182, 3) := by decide +kernel
theorem dL_law_1821 : decode cL_law 1821 = .ok (.aload_n 1, 1) := by decide +kernel
theorem dL_law_1822 : decode cL_law 1822 = .ok (.aload_n 0, 1) := by decide +kernel
theorem dL_law_1823 : decode cL_law 1823 = .ok (.iload 4, 2) := by decide +kernel
theorem dL_law_1825 : decode cL_law 1825 = .ok (.iconst 1, 1) := by decide +kernel
theorem dL_law_1826 : decode cL_law 1826 = .ok (.iadd, 1) := by decide +kernel
theorem dL_law_1827 : decode cL_law 1827 = .ok (.iaload, 1) := by decide +kernel
theorem dL_law_1828 : decode cL_law 1828 = .ok (.aload_n 0, 1) := by decide +kernel
theorem dL_law_1829 : decode cL_law 1829 = .ok (.iload 4, 2) := by decide +kernel
theorem dL_law_1831 : decode cL_law 1831 = .ok (.iconst 2, 1) := by decide +kernel
theorem dL_law_1832 : decode cL_law 1832 = .ok (.iadd, 1) := by decide +kernel
theorem dL_law_1833 : decode cL_law 1833 = .ok (.iaload, 1) := by decide +kernel
theorem dL_law_1834 : decode cL_law 1834 = .ok (.aload_n 3, 1) := by decide +kernel
theorem dL_law_1835 : decode cL_law 1835 = .ok (.invokestatic 221, 3) := by decide +kernel
theorem dL_law_1838 : decode cL_law 1838 = .ok (.istore 5, 2) := by decide +kernel
theorem dL_law_1840 : decode cL_law 1840 = .ok (.aload_n 2, 1) := by decide +kernel
theorem dL_law_1841 : decode cL_law 1841 = .ok (.aload_n 0, 1) := by decide +kernel
theorem dL_law_1842 : decode cL_law 1842 = .ok (.iload 4, 2) := by decide +kernel
theorem dL_law_1844 : decode cL_law 1844 = .ok (.iconst 1, 1) := by decide +kernel
theorem dL_law_1845 : decode cL_law 1845 = .ok (.iadd, 1) := by decide +kernel
theorem dL_law_1846 : decode cL_law 1846 = .ok (.iaload, 1) := by decide +kernel
theorem dL_law_1847 : decode cL_law 1847 = .ok (.aload_n 0, 1) := by decide +kernel
theorem dL_law_1848 : decode cL_law 1848 = .ok (.iload 4, 2) := by decide +kernel
theorem dL_law_1850 : decode cL_law 1850 = .ok (.iconst 2, 1) := by decide +kernel
theorem dL_law_1851 : decode cL_law 1851 = .ok (.iadd, 1) := by decide +kernel
theorem dL_law_1852 : decode cL_law 1852 = .ok (.iaload, 1) := by decide +kernel
theorem dL_law_1853 : decode cL_law 1853 = .ok (.invokevirtual 223, 3) := by decide +kernel
theorem dL_law_1856 : decode cL_law 1856 = .ok (.istore 6, 2) := by decide +kernel
theorem dL_law_1858 : decode cL_law 1858 = .ok (.aload_n 2, 1) := by decide +kernel
theorem dL_law_1859 : decode cL_law 1859 = .ok (.invokevirtual 111, 3) := by decide +kernel
theorem dL_law_1862 : decode cL_law 1862 = .ok (.iload 5, 2) := by decide +kernel
theorem dL_law_1864 : decode cL_law 1864 = .ok (.if_icmp .eq 5, 3) := by decide +kernel
theorem dL_law_1867 : decode cL_law 1867 = .ok (.iconst 0, 1) := by decide +kernel
theorem dL_law_1868 : decode cL_law 1868 = .ok (.ireturn, 1) := by decide +kernel
theorem dL_law_1869 : decode cL_law 1869 = .ok (.iload 5, 2) := by decide +kernel
theorem dL_law_1871 : decode cL_law 1871 = .ok (.ifCond .ne 15, 3) := by decide +kernel
theorem dL_law_1874 : decode cL_law 1874 = .ok (.aload_n 3, 1) := by decide +kernel
theorem dL_law_1875 : decode cL_law 1875 = .ok (.iconst 0, 1) := by decide +kernel
theorem dL_law_1876 : decode cL_law 1876 = .ok (.laload, 1) := by decide +kernel
theorem dL_law_1877 : decode cL_law 1877 = .ok (.iload 6, 2) := by decide +kernel
theorem dL_law_1879 : decode cL_law 1879 = .ok (.i2l, 1) := by decide +kernel
theorem dL_law_1880 : decode cL_law 1880 = .ok (.lcmp, 1) := by decide +kernel
theorem dL_law_1881 : decode cL_law 1881 = .ok (.ifCond .eq 5, 3) := by decide +kernel
theorem dL_law_1884 : decode cL_law 1884 = .ok (.iconst 0, 1) := by decide +kernel
theorem dL_law_1885 : decode cL_law 1885 = .ok (.ireturn, 1) := by decide +kernel
theorem dL_law_1886 : decode cL_law 1886 = .ok (.goto 114, 3) := by decide +kernel
theorem dL_law_1889 : decode cL_law 1889 = .ok (.aload_n 1, 1) := by decide +kernel
theorem dL_law_1890 : decode cL_law 1890 = .ok (.aload_n 0, 1) := by decide +kernel
theorem dL_law_1891 : decode cL_law 1891 = .ok (.iload 4, 2) := by decide +kernel
theorem dL_law_1893 : decode cL_law 1893 = .ok (.iconst 1, 1) := by decide +kernel
theorem dL_law_1894 : decode cL_law 1894 = .ok (.iadd, 1) := by decide +kernel
theorem dL_law_1895 : decode cL_law 1895 = .ok (.iaload, 1) := by decide +kernel
theorem dL_law_1896 : decode cL_law 1896 = .ok (.aload_n 3, 1) := by decide +kernel
theorem dL_law_1897 : decode cL_law 1897 = .ok (.invokestatic 224, 3) := by decide +kernel
theorem dL_law_1900 : decode cL_law 1900 = .ok (.istore 5, 2) := by decide +kernel
theorem dL_law_1902 : decode cL_law 1902 = .ok (.aload_n 2, 1) := by decide +kernel
theorem dL_law_1903 : decode cL_law 1903 = .ok (.aload_n 0, 1) := by decide +kernel
theorem dL_law_1904 : decode cL_law 1904 = .ok (.iload 4, 2) := by decide +kernel
theorem dL_law_1906 : decode cL_law 1906 = .ok (.iconst 1, 1) := by decide +kernel
theorem dL_law_1907 : decode cL_law 1907 = .ok (.iadd, 1) := by decide +kernel
theorem dL_law_1908 : decode cL_law 1908 = .ok (.iaload, 1) := by decide +kernel
theorem dL_law_1909 : decode cL_law 1909 = .ok (.invokevirtual 226, 3) := by decide +kernel
theorem dL_law_1912 : decode cL_law 1912 = .ok (.istore 6, 2) := by decide +kernel
theorem dL_law_1914 : decode cL_law 1914 = .ok (.aload_n 2, 1) := by decide +kernel
theorem dL_law_1915 : decode cL_law 1915 = .ok (.invokevirtual 111, 3) := by decide +kernel
theorem dL_law_1918 : decode cL_law 1918 = .ok (.iload 5, 2) := by decide +kernel
theorem dL_law_1920 : decode cL_law 1920 = .ok (.if_icmp .eq 5, 3) := by decide +kernel
theorem dL_law_1923 : decode cL_law 1923 = .ok (.iconst 0, 1) := by decide +kernel
theorem dL_law_1924 : decode cL_law 1924 = .ok (.ireturn, 1) := by decide +kernel
theorem dL_law_1925 : decode cL_law 1925 = .ok (.iload 5, 2) := by decide +kernel
theorem dL_law_1927 : decode cL_law 1927 = .ok (.ifCond .ne 15, 3) := by decide +kernel
theorem dL_law_1930 : decode cL_law 1930 = .ok (.aload_n 3, 1) := by decide +kernel
theorem dL_law_1931 : decode cL_law 1931 = .ok (.iconst 0, 1) := by decide +kernel
theorem dL_law_1932 : decode cL_law 1932 = .ok (.laload, 1) := by decide +kernel
theorem dL_law_1933 : decode cL_law 1933 = .ok (.iload 6, 2) := by decide +kernel
theorem dL_law_1935 : decode cL_law 1935 = .ok (.i2l, 1) := by decide +kernel
theorem dL_law_1936 : decode cL_law 1936 = .ok (.lcmp, 1) := by decide +kernel
theorem dL_law_1937 : decode cL_law 1937 = .ok (.ifCond .eq 5, 3) := by decide +kernel
theorem dL_law_1940 : decode cL_law 1940 = .ok (.iconst 0, 1) := by decide +kernel
theorem dL_law_1941 : decode cL_law 1941 = .ok (.ireturn, 1) := by decide +kernel
theorem dL_law_1942 : decode cL_law 1942 = .ok (.goto 58, 3) := by decide +kernel
theorem dL_law_1945 : decode cL_law 1945 = .ok (.aload_n 1, 1) := by decide +kernel
theorem dL_law_1946 : decode cL_law 1946 = .ok (.invokevirtual 227, 3) := by decide +kernel
theorem dL_law_1949 : decode cL_law 1949 = .ok (.dstore 5, 2) := by decide +kernel
theorem dL_law_1951 : decode cL_law 1951 = .ok (.aload_n 2, 1) := by decide +kernel
theorem dL_law_1952 : decode cL_law 1952 = .ok (.invokevirtual 231, 3) := by decide +kernel
theorem dL_law_1955 : decode cL_law 1955 = .ok (.dstore 7, 2) := by decide +kernel
theorem dL_law_1957 : decode cL_law 1957 = .ok (.dload 5, 2) := by decide +kernel
theorem dL_law_1959 : decode cL_law 1959 = .ok (.dload 7, 2) := by decide +kernel
theorem dL_law_1961 : decode cL_law 1961 = .ok (.dcmp .l, 1) := by decide +kernel
theorem dL_law_1962 : decode cL_law 1962 = .ok (.ifCond .eq 21, 3) := by decide +kernel
theorem dL_law_1965 : decode cL_law 1965 = .ok (.dload 5, 2) := by decide +kernel
theorem dL_law_1967 : decode cL_law 1967 = .ok (.dload 5, 2) := by decide +kernel
theorem dL_law_1969 : decode cL_law 1969 = .ok (.dcmp .l, 1) := by decide +kernel
theorem dL_law_1970 : decode cL_law 1970 = .ok (.ifCond .eq 11, 3) := by decide +kernel
theorem dL_law_1973 : decode cL_law 1973 = .ok (.dload 7, 2) := by decide +kernel
theorem dL_law_1975 : decode cL_law 1975 = .ok (.dload 7, 2) := by decide +kernel
theorem dL_law_1977 : decode cL_law 1977 = .ok (.dcmp .l, 1) := by decide +kernel
theorem dL_law_1978 : decode cL_law 1978 = .ok (.ifCond .ne 5, 3) := by decide +kernel
theorem dL_law_1981 : decode cL_law 1981 = .ok (.iconst 0, 1) := by decide +kernel
theorem dL_law_1982 : decode cL_law 1982 = .ok (.ireturn, 1) := by decide +kernel
theorem dL_law_1983 : decode cL_law 1983 = .ok (.goto 17, 3) := by decide +kernel
theorem dL_law_1986 : decode cL_law 1986 = .ok (.aload_n 1, 1) := by decide +kernel
theorem dL_law_1987 : decode cL_law 1987 = .ok (.invokevirtual 232, 3) := by decide +kernel
theorem dL_law_1990 : decode cL_law 1990 = .ok (.aload_n 2, 1) := by decide +kernel
theorem dL_law_1991 : decode cL_law 1991 = .ok (.invokevirtual 236, 3) := by decide +kernel
theorem dL_law_1994 : decode cL_law 1994 = .ok (.lcmp, 1) := by decide +kernel
theorem dL_law_1995 : decode cL_law 1995 = .ok (.ifCond .eq 5, 3) := by decide +kernel
theorem dL_law_1998 : decode cL_law 1998 = .ok (.iconst 0, 1) := by decide +kernel
theorem dL_law_1999 : decode cL_law 1999 = .ok (.ireturn, 1) := by decide +kernel
theorem dL_law_2000 : decode cL_law 2000 = .ok (.iinc 4 4, 3) := by decide +kernel
theorem dL_law_2003 : decode cL_law 2003 = .ok (.goto (-1980), 3) := by decide +kernel
theorem dL_law_2006 : decode cL_law 2006 = .ok (.iconst 1, 1) := by decide +kernel
theorem dL_law_2007 : decode cL_law 2007 = .ok (.ireturn, 1) := by decide +kernel
