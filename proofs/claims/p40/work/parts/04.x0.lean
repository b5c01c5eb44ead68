theorem dX0_init_0 : decode cX0_init 0 = .ok (.aload_n 0, 1) := by decide +kernel
theorem dX0_init_1 : decode cX0_init 1 = .ok (.invokespecial 1, 3) := by decide +kernel
theorem dX0_init_4 : decode cX0_init 4 = .ok (.aload_n 0, 1) := by decide +kernel
theorem dX0_init_5 : decode cX0_init 5 = .ok (.bipush 6, 2) := by decide +kernel
theorem dX0_init_7 : decode cX0_init 7 = .ok (.newarray .int, 2) := by decide +kernel
theorem dX0_init_9 : decode cX0_init 9 = .ok (.putfield 9, 3) := by decide +kernel
theorem dX0_init_12 : decode cX0_init 12 = .ok (.aload_n 0, 1) := by decide +kernel
theorem dX0_init_13 : decode cX0_init 13 = .ok (.bipush 6, 2) := by decide +kernel
theorem dX0_init_15 : decode cX0_init 15 = .ok (.newarray .boolean, 2) := by decide +kernel
theorem dX0_init_17 : decode cX0_init 17 = .ok (.putfield 13, 3) := by decide +kernel
theorem dX0_init_20 : decode cX0_init 20 = .ok (.aload_n 0, 1) := by decide +kernel
theorem dX0_init_21 : decode cX0_init 21 = .ok (.bipush 20, 2) := by decide +kernel
theorem dX0_init_23 : decode cX0_init 23 = .ok (.newarray .int, 2) := by decide +kernel
theorem dX0_init_25 : decode cX0_init 25 = .ok (.putfield 17, 3) := by decide +kernel
theorem dX0_init_28 : decode cX0_init 28 = .ok (.aload_n 0, 1) := by decide +kernel
theorem dX0_init_29 : decode cX0_init 29 = .ok (.bipush 20, 2) := by decide +kernel
theorem dX0_init_31 : decode cX0_init 31 = .ok (.newarray .int, 2) := by decide +kernel
theorem dX0_init_33 : decode cX0_init 33 = .ok (.putfield 20, 3) := by decide +kernel
theorem dX0_init_36 : decode cX0_init 36 = .ok (.aload_n 0, 1) := by decide +kernel
theorem dX0_init_37 : decode cX0_init 37 = .ok (.bipush 20, 2) := by decide +kernel
theorem dX0_init_39 : decode cX0_init 39 = .ok (.newarray .int, 2) := by decide +kernel
theorem dX0_init_41 : decode cX0_init 41 = .ok (.putfield 23, 3) := by decide +kernel
theorem dX0_init_44 : decode cX0_init 44 = .ok (.aload_n 0, 1) := by decide +kernel
theorem dX0_init_45 : decode cX0_init 45 = .ok (.bipush 20, 2) := by decide +kernel
theorem dX0_init_47 : decode cX0_init 47 = .ok (.newarray .int, 2) := by decide +kernel
theorem dX0_init_49 : decode cX0_init 49 = .ok (.putfield 26, 3) := by decide +kernel
theorem dX0_init_52 : decode cX0_init 52 = .ok (.aload_n 0, 1) := by decide +kernel
theorem dX0_init_53 : decode cX0_init 53 = .ok (.bipush 20, 2) := by decide +kernel
theorem dX0_init_55 : decode cX0_init 55 = .ok (.newarray .int, 2) := by decide +kernel
theorem dX0_init_57 : decode cX0_init 57 = .ok (.putfield 29, 3) := by decide +kernel
theorem dX0_init_60 : decode cX0_init 60 = .ok (.aload_n 0, 1) := by decide +kernel
theorem dX0_init_61 : decode cX0_init 61 = .ok (.bipush 20, 2) := by decide +kernel
theorem dX0_init_63 : decode cX0_init 63 = .ok (.newarray .int, 2) := by decide +kernel
theorem dX0_init_65 : decode cX0_init 65 = .ok (.putfield 32, 3) := by decide +kernel
theorem dX0_init_68 : decode cX0_init 68 = .ok (.return_, 1) := by decide +kernel
set_option maxRecDepth 20000 in
theorem ggX0_addPerson_X0_requirePride : GoodIn wsX0_addPerson wsX0_requirePride := goodIn_ca (goodIn_r _ [8, 9, 10] (by decide +kernel) (by decide +kernel)) (goodIn_sub (fun _ h => List.mem_cons_of_mem _ (List.mem_append_right _ h)) (by decide +kernel))
set_option maxRecDepth 20000 in
theorem gX0_addPerson_X0_requirePride : GoodIn wsX0_addPerson (va_wsS RX0 35 yX0_requirePride wsX0_requirePride) := goodIn_app (goodIn_of _ (by decide +kernel)) ggX0_addPerson_X0_requirePride
theorem dX0_addPerson_0 : decode cX0_addPerson 0 = .ok (.iload_n 1, 1) := by decide +kernel
theorem dX0_addPerson_1 : decode cX0_addPerson 1 = .ok (.invokestatic 35, 3) := by decide +kernel
theorem dX0_addPerson_4 : decode cX0_addPerson 4 = .ok (.aload_n 0, 1) := by decide +kernel
theorem dX0_addPerson_5 : decode cX0_addPerson 5 = .ok (.getfield 39, 3) := by decide +kernel
theorem dX0_addPerson_8 : decode cX0_addPerson 8 = .ok (.bipush 6, 2) := by decide +kernel
theorem dX0_addPerson_10 : decode cX0_addPerson 10 = .ok (.if_icmp .lt 13, 3) := by decide +kernel
theorem dX0_addPerson_13 : decode cX0_addPerson 13 = .ok (.new 43, 3) := by decide +kernel
theorem dX0_addPerson_16 : decode cX0_addPerson 16 = .ok (.dup, 1) := by decide +kernel
theorem dX0_addPerson_17 : decode cX0_addPerson 17 = .ok (.ldc 45, 2) := by decide +kernel
theorem dX0_addPerson_19 : decode cX0_addPerson 19 = .ok (.invokespecial 47, 3) := by decide +kernel
theorem dX0_addPerson_22 : decode cX0_addPerson 22 = .ok (.athrow, 1) := by decide +kernel
theorem dX0_addPerson_23 : decode cX0_addPerson 23 = .ok (.aload_n 0, 1) := by decide +kernel
theorem dX0_addPerson_24 : decode cX0_addPerson 24 = .ok (.getfield 39, 3) := by decide +kernel
theorem dX0_addPerson_27 : decode cX0_addPerson 27 = .ok (.istore_n 2, 1) := by decide +kernel
theorem dX0_addPerson_28 : decode cX0_addPerson 28 = .ok (.aload_n 0, 1) := by decide +kernel
theorem dX0_addPerson_29 : decode cX0_addPerson 29 = .ok (.getfield 9, 3) := by decide +kernel
theorem dX0_addPerson_32 : decode cX0_addPerson 32 = .ok (.iload_n 2, 1) := by decide +kernel
theorem dX0_addPerson_33 : decode cX0_addPerson 33 = .ok (.iload_n 1, 1) := by decide +kernel
theorem dX0_addPerson_34 : decode cX0_addPerson 34 = .ok (.iastore, 1) := by decide +kernel
theorem dX0_addPerson_35 : decode cX0_addPerson 35 = .ok (.aload_n 0, 1) := by decide +kernel
theorem dX0_addPerson_36 : decode cX0_addPerson 36 = .ok (.iload_n 2, 1) := by decide +kernel
theorem dX0_addPerson_37 : decode cX0_addPerson 37 = .ok (.iconst 1, 1) := by decide +kernel
theorem dX0_addPerson_38 : decode cX0_addPerson 38 = .ok (.iadd, 1) := by decide +kernel
theorem dX0_addPerson_39 : decode cX0_addPerson 39 = .ok (.putfield 39, 3) := by decide +kernel
theorem dX0_addPerson_42 : decode cX0_addPerson 42 = .ok (.iload_n 2, 1) := by decide +kernel
theorem dX0_addPerson_43 : decode cX0_addPerson 43 = .ok (.ireturn, 1) := by decide +kernel
set_option maxRecDepth 20000 in
theorem ggX0_enter_X0_requirePerson : GoodIn wsX0_enter wsX0_requirePerson := goodIn_ca (goodIn_r _ [6, 7, 8, 9, 10, 11, 12, 13, 14, 15, 16, 17, 18, 19, 20, 21] (by decide +kernel) (by decide +kernel)) (goodIn_sub (fun _ h => List.mem_cons_of_mem _ (List.mem_append_right _ h)) (by decide +kernel))
set_option maxRecDepth 20000 in
theorem gX0_enter_X0_requirePerson : GoodIn wsX0_enter (wsV RX0 50 RX0 yX0_requirePerson wsX0_requirePerson) := goodIn_app (goodIn_of _ (by decide +kernel)) ggX0_enter_X0_requirePerson
theorem dX0_enter_0 : decode cX0_enter 0 = .ok (.aload_n 0, 1) := by decide +kernel
theorem dX0_enter_1 : decode cX0_enter 1 = .ok (.iload_n 1, 1) := by decide +kernel
theorem dX0_enter_2 : decode cX0_enter 2 = .ok (.invokevirtual 50, 3) := by decide +kernel
theorem dX0_enter_5 : decode cX0_enter 5 = .ok (.aload_n 0, 1) := by decide +kernel
theorem dX0_enter_6 : decode cX0_enter 6 = .ok (.getfield 13, 3) := by decide +kernel
theorem dX0_enter_9 : decode cX0_enter 9 = .ok (.iload_n 1, 1) := by decide +kernel
theorem dX0_enter_10 : decode cX0_enter 10 = .ok (.aload_n 0, 1) := by decide +kernel
theorem dX0_enter_11 : decode cX0_enter 11 = .ok (.getfield 13, 3) := by decide +kernel
theorem dX0_enter_14 : decode cX0_enter 14 = .ok (.iload_n 1, 1) := by decide +kernel
theorem dX0_enter_15 : decode cX0_enter 15 = .ok (.baload, 1) := by decide +kernel
theorem dX0_enter_16 : decode cX0_enter 16 = .ok (.ifCond .ne 7, 3) := by decide +kernel
theorem dX0_enter_19 : decode cX0_enter 19 = .ok (.iconst 1, 1) := by decide +kernel
theorem dX0_enter_20 : decode cX0_enter 20 = .ok (.goto 4, 3) := by decide +kernel
theorem dX0_enter_23 : decode cX0_enter 23 = .ok (.iconst 0, 1) := by decide +kernel
theorem dX0_enter_24 : decode cX0_enter 24 = .ok (.bastore, 1) := by decide +kernel
theorem dX0_enter_25 : decode cX0_enter 25 = .ok (.aload_n 0, 1) := by decide +kernel
theorem dX0_enter_26 : decode cX0_enter 26 = .ok (.getfield 13, 3) := by decide +kernel
theorem dX0_enter_29 : decode cX0_enter 29 = .ok (.iload_n 1, 1) := by decide +kernel
theorem dX0_enter_30 : decode cX0_enter 30 = .ok (.baload, 1) := by decide +kernel
theorem dX0_enter_31 : decode cX0_enter 31 = .ok (.ireturn, 1) := by decide +kernel
set_option maxRecDepth 20000 in
theorem ggX0_slight_X0_requirePerson : GoodIn wsX0_slight wsX0_requirePerson := goodIn_ca (goodIn_r _ [13, 14, 15, 16, 17, 18, 19, 20, 21, 22, 23, 24, 25, 26, 27, 28] (by decide +kernel) (by decide +kernel)) (goodIn_sub (fun _ h => List.mem_cons_of_mem _ (List.mem_append_right _ h)) (by decide +kernel))
set_option maxRecDepth 20000 in
theorem gX0_slight_X0_requirePerson : GoodIn wsX0_slight (wsV RX0 50 RX0 yX0_requirePerson wsX0_requirePerson) := goodIn_app (goodIn_of _ (by decide +kernel)) ggX0_slight_X0_requirePerson
theorem dX0_slight_0 : decode cX0_slight 0 = .ok (.aload_n 0, 1) := by decide +kernel
theorem dX0_slight_1 : decode cX0_slight 1 = .ok (.iload_n 1, 1) := by decide +kernel
theorem dX0_slight_2 : decode cX0_slight 2 = .ok (.invokevirtual 50, 3) := by decide +kernel
theorem dX0_slight_5 : decode cX0_slight 5 = .ok (.aload_n 0, 1) := by decide +kernel
theorem dX0_slight_6 : decode cX0_slight 6 = .ok (.iload_n 2, 1) := by decide +kernel
theorem dX0_slight_7 : decode cX0_slight 7 = .ok (.invokevirtual 50, 3) := by decide +kernel
theorem dX0_slight_10 : decode cX0_slight 10 = .ok (.iload_n 1, 1) := by decide +kernel
theorem dX0_slight_11 : decode cX0_slight 11 = .ok (.iload_n 2, 1) := by decide +kernel
theorem dX0_slight_12 : decode cX0_slight 12 = .ok (.if_icmp .ne 13, 3) := by decide +kernel
theorem dX0_slight_15 : decode cX0_slight 15 = .ok (.new 53, 3) := by decide +kernel
theorem dX0_slight_18 : decode cX0_slight 18 = .ok (.dup, 1) := by decide +kernel
theorem dX0_slight_19 : decode cX0_slight 19 = .ok (.ldc 55, 2) := by decide +kernel
theorem dX0_slight_21 : decode cX0_slight 21 = .ok (.invokespecial 57, 3) := by decide +kernel
theorem dX0_slight_24 : decode cX0_slight 24 = .ok (.athrow, 1) := by decide +kernel
theorem dX0_slight_25 : decode cX0_slight 25 = .ok (.iload_n 3, 1) := by decide +kernel
theorem dX0_slight_26 : decode cX0_slight 26 = .ok (.iconst 1, 1) := by decide +kernel
theorem dX0_slight_27 : decode cX0_slight 27 = .ok (.if_icmp .lt 9, 3) := by decide +kernel
theorem dX0_slight_30 : decode cX0_slight 30 = .ok (.iload_n 3, 1) := by decide +kernel
theorem dX0_slight_31 : decode cX0_slight 31 = .ok (.bipush 20, 2) := by decide +kernel
theorem dX0_slight_33 : decode cX0_slight 33 = .ok (.if_icmp .le 13, 3) := by decide +kernel
theorem dX0_slight_36 : decode cX0_slight 36 = .ok (.new 53, 3) := by decide +kernel
theorem dX0_slight_39 : decode cX0_slight 39 = .ok (.dup, 1) := by decide +kernel
theorem dX0_slight_40 : decode cX0_slight 40 = .ok (.ldc 58, 2) := by decide +kernel
theorem dX0_slight_42 : decode cX0_slight 42 = .ok (.invokespecial 57, 3) := by decide +kernel
theorem dX0_slight_45 : decode cX0_slight 45 = .ok (.athrow, 1) := by decide +kernel
theorem dX0_slight_46 : decode cX0_slight 46 = .ok (.aload_n 0, 1) := by decide +kernel
theorem dX0_slight_47 : decode cX0_slight 47 = .ok (.getfield 60, 3) := by decide +kernel
theorem dX0_slight_50 : decode cX0_slight 50 = .ok (.bipush 20, 2) := by decide +kernel
theorem dX0_slight_52 : decode cX0_slight 52 = .ok (.if_icmp .lt 13, 3) := by decide +kernel
theorem dX0_slight_55 : decode cX0_slight 55 = .ok (.new 43, 3) := by decide +kernel
theorem dX0_slight_58 : decode cX0_slight 58 = .ok (.dup, 1) := by decide +kernel
theorem dX0_slight_59 : decode cX0_slight 59 = .ok (.ldc 63, 2) := by decide +kernel
theorem dX0_slight_61 : decode cX0_slight 61 = .ok (.invokespecial 47, 3) := by decide +kernel
theorem dX0_slight_64 : decode cX0_slight 64 = .ok (.athrow, 1) := by decide +kernel
theorem dX0_slight_65 : decode cX0_slight 65 = .ok (.aload_n 0, 1) := by decide +kernel
theorem dX0_slight_66 : decode cX0_slight 66 = .ok (.getfield 60, 3) := by decide +kernel
theorem dX0_slight_69 : decode cX0_slight 69 = .ok (.istore 4, 2) := by decide +kernel
theorem dX0_slight_71 : decode cX0_slight 71 = .ok (.aload_n 0, 1) := by decide +kernel
theorem dX0_slight_72 : decode cX0_slight 72 = .ok (.getfield 17, 3) := by decide +kernel
theorem dX0_slight_75 : decode cX0_slight 75 = .ok (.iload 4, 2) := by decide +kernel
theorem dX0_slight_77 : decode cX0_slight 77 = .ok (.iload_n 1, 1) := by decide +kernel
theorem dX0_slight_78 : decode cX0_slight 78 = .ok (.iastore, 1) := by decide +kernel
theorem dX0_slight_79 : decode cX0_slight 79 = .ok (.aload_n 0, 1) := by decide +kernel
theorem dX0_slight_80 : decode cX0_slight 80 = .ok (.getfield 20, 3) := by decide +kernel
theorem dX0_slight_83 : decode cX0_slight 83 = .ok (.iload 4, 2) := by decide +kernel
theorem dX0_slight_85 : decode cX0_slight 85 = .ok (.iload_n 2, 1) := by decide +kernel
theorem dX0_slight_86 : decode cX0_slight 86 = .ok (.iastore, 1) := by decide +kernel
theorem dX0_slight_87 : decode cX0_slight 87 = .ok (.aload_n 0, 1) := by decide +kernel
theorem dX0_slight_88 : decode cX0_slight 88 = .ok (.getfield 23, 3) := by decide +kernel
theorem dX0_slight_91 : decode cX0_slight 91 = .ok (.iload 4, 2) := by decide +kernel
theorem dX0_slight_93 : decode cX0_slight 93 = .ok (.iload_n 3, 1) := by decide +kernel
theorem dX0_slight_94 : decode cX0_slight 94 = .ok (.iastore, 1) := by decide +kernel
theorem dX0_slight_95 : decode cX0_slight 95 = .ok (.aload_n 0, 1) := by decide +kernel
theorem dX0_slight_96 : decode cX0_slight 96 = .ok (.iload 4, 2) := by decide +kernel
theorem dX0_slight_98 : decode cX0_slight 98 = .ok (.iconst 1, 1) := by decide +kernel
theorem dX0_slight_99 : decode cX0_slight 99 = .ok (.iadd, 1) := by decide +kernel
theorem dX0_slight_100 : decode cX0_slight 100 = .ok (.putfield 60, 3) := by decide +kernel
theorem dX0_slight_103 : decode cX0_slight 103 = .ok (.iload 4, 2) := by decide +kernel
theorem dX0_slight_105 : decode cX0_slight 105 = .ok (.ireturn, 1) := by decide +kernel
set_option maxRecDepth 20000 in
theorem ggX0_mention_X0_requireSlight : GoodIn wsX0_mention wsX0_requireSlight := goodIn_ca (goodIn_r _ [6, 7, 8, 9, 30, 31, 32, 33, 34, 35, 36, 37, 38, 39, 40, 41] (by decide +kernel) (by decide +kernel)) (goodIn_sub (fun _ h => List.mem_cons_of_mem _ (List.mem_append_left _ (List.mem_append_right _ h))) (by decide +kernel))
set_option maxRecDepth 20000 in
theorem gX0_mention_X0_requireSlight : GoodIn wsX0_mention (wsV RX0 65 RX0 yX0_requireSlight wsX0_requireSlight) := goodIn_app (goodIn_of _ (by decide +kernel)) ggX0_mention_X0_requireSlight
set_option maxRecDepth 20000 in
theorem ggX0_mention_X0_requireOpen : GoodIn wsX0_mention wsX0_requireOpen := goodIn_ca (goodIn_ca (goodIn_r _ [13, 14, 15, 16, 17, 18, 5, 19, 20, 2, 3, 4, 6, 7, 8, 9, 30, 31, 32, 33, 34, 35, 36, 37, 38, 39, 40, 41] (by decide +kernel) (by decide +kernel)) (goodIn_sub (fun _ h => List.mem_cons_of_mem _ (List.mem_append_right _ h)) (by decide +kernel))) (goodIn_sub (fun _ h => List.mem_cons_of_mem _ (List.mem_append_left _ (List.mem_append_right _ h))) (by decide +kernel))
set_option maxRecDepth 20000 in
theorem gX0_mention_X0_requireOpen : GoodIn wsX0_mention (wsV RX0 68 RX0 yX0_requireOpen wsX0_requireOpen) := goodIn_app (goodIn_of _ (by decide +kernel)) ggX0_mention_X0_requireOpen
set_option maxRecDepth 20000 in
theorem ggX0_mention_X0_speakOf : GoodIn wsX0_mention wsX0_speakOf := goodIn_ca (goodIn_r _ [24, 1, 25, 26, 27, 28, 29, 2, 3, 4, 5, 6, 7, 8, 9, 30, 31, 32, 33, 34, 35, 36, 37, 38, 39, 40, 41] (by decide +kernel) (by decide +kernel)) (goodIn_sub (fun _ h => List.mem_cons_of_mem _ (List.mem_append_left _ (List.mem_append_right _ h))) (by decide +kernel))
set_option maxRecDepth 20000 in
theorem gX0_mention_X0_speakOf : GoodIn wsX0_mention (wsV RX0 71 RX0 yX0_speakOf wsX0_speakOf) := goodIn_app (goodIn_of _ (by decide +kernel)) ggX0_mention_X0_speakOf
theorem dX0_mention_0 : decode cX0_mention 0 = .ok (.aload_n 0, 1) := by decide +kernel
theorem dX0_mention_1 : decode cX0_mention 1 = .ok (.iload_n 1, 1) := by decide +kernel
theorem dX0_mention_2 : decode cX0_mention 2 = .ok (.invokevirtual 65, 3) := by decide +kernel
theorem dX0_mention_5 : decode cX0_mention 5 = .ok (.aload_n 0, 1) := by decide +kernel
theorem dX0_mention_6 : decode cX0_mention 6 = .ok (.iload_n 1, 1) := by decide +kernel
theorem dX0_mention_7 : decode cX0_mention 7 = .ok (.invokevirtual 68, 3) := by decide +kernel
theorem dX0_mention_10 : decode cX0_mention 10 = .ok (.aload_n 0, 1) := by decide +kernel
theorem dX0_mention_11 : decode cX0_mention 11 = .ok (.iload_n 1, 1) := by decide +kernel
theorem dX0_mention_12 : decode cX0_mention 12 = .ok (.invokevirtual 71, 3) := by decide +kernel
theorem dX0_mention_15 : decode cX0_mention 15 = .ok (.aload_n 0, 1) := by decide +kernel
theorem dX0_mention_16 : decode cX0_mention 16 = .ok (.getfield 23, 3) := by decide +kernel
theorem dX0_mention_19 : decode cX0_mention 19 = .ok (.iload_n 1, 1) := by decide +kernel
theorem dX0_mention_20 : decode cX0_mention 20 = .ok (.iaload, 1) := by decide +kernel
theorem dX0_mention_21 : decode cX0_mention 21 = .ok (.ireturn, 1) := by decide +kernel
set_option maxRecDepth 20000 in
theorem ggX0_apologize_X0_requireSlight : GoodIn wsX0_apologize wsX0_requireSlight := goodIn_ca (goodIn_r _ [7, 8, 9, 10, 80, 81, 82, 83, 84, 85, 86, 87, 88, 89, 90, 91] (by decide +kernel) (by decide +kernel)) (goodIn_sub (fun _ h => List.mem_cons_of_mem _ (List.mem_append_left _ (List.mem_append_left _ (List.mem_append_right _ h)))) (by decide +kernel))
set_option maxRecDepth 20000 in
theorem gX0_apologize_X0_requireSlight : GoodIn wsX0_apologize (wsV RX0 65 RX0 yX0_requireSlight wsX0_requireSlight) := goodIn_app (goodIn_of _ (by decide +kernel)) ggX0_apologize_X0_requireSlight
set_option maxRecDepth 20000 in
theorem ggX0_apologize_X0_requireWords : GoodIn wsX0_apologize wsX0_requireWords := goodIn_ca (goodIn_r _ [13, 14, 15] (by decide +kernel) (by decide +kernel)) (goodIn_sub (fun _ h => List.mem_cons_of_mem _ (List.mem_append_left _ (List.mem_append_right _ h))) (by decide +kernel))
set_option maxRecDepth 20000 in
theorem gX0_apologize_X0_requireWords : GoodIn wsX0_apologize (va_wsS RX0 74 yX0_requireWords wsX0_requireWords) := goodIn_app (goodIn_of _ (by decide +kernel)) ggX0_apologize_X0_requireWords
set_option maxRecDepth 20000 in
theorem ggX0_apologize_X0_requireOpen : GoodIn wsX0_apologize wsX0_requireOpen := goodIn_ca (goodIn_ca (goodIn_r _ [19, 20, 21, 22, 23, 24, 6, 25, 26, 3, 4, 5, 7, 8, 9, 10, 80, 81, 82, 83, 84, 85, 86, 87, 88, 89, 90, 91] (by decide +kernel) (by decide +kernel)) (goodIn_sub (fun _ h => List.mem_cons_of_mem _ (List.mem_append_right _ h)) (by decide +kernel))) (goodIn_sub (fun _ h => List.mem_cons_of_mem _ (List.mem_append_left _ (List.mem_append_left _ (List.mem_append_right _ h)))) (by decide +kernel))
set_option maxRecDepth 20000 in
theorem gX0_apologize_X0_requireOpen : GoodIn wsX0_apologize (wsV RX0 68 RX0 yX0_requireOpen wsX0_requireOpen) := goodIn_app (goodIn_of _ (by decide +kernel)) ggX0_apologize_X0_requireOpen
set_option maxRecDepth 20000 in
theorem ggX0_apologize_X0_worthOf : GoodIn wsX0_apologize wsX0_worthOf := goodIn_ca (goodIn_r _ [30, 31, 32, 33, 6, 34, 35, 36, 37, 38, 3, 4, 5, 7, 8, 9, 10, 80, 81, 82, 83, 84, 85, 86, 87, 88, 89, 90, 91] (by decide +kernel) (by decide +kernel)) (goodIn_sub (fun _ h => List.mem_cons_of_mem _ (List.mem_append_left _ (List.mem_append_left _ (List.mem_append_right _ h)))) (by decide +kernel))
set_option maxRecDepth 20000 in
theorem gX0_apologize_X0_worthOf : GoodIn wsX0_apologize (wsV RX0 77 RX0 yX0_worthOf wsX0_worthOf) := goodIn_app (goodIn_of _ (by decide +kernel)) ggX0_apologize_X0_worthOf
set_option maxRecDepth 20000 in
theorem ggX0_apologize_X0_leastWorthHeard : GoodIn wsX0_apologize wsX0_leastWorthHeard := goodIn_ca (goodIn_r _ [42, 43, 44, 45, 46, 47, 48, 49, 6, 50, 38, 3, 4, 5, 7, 8, 9, 10, 51, 52, 53, 54, 55, 56, 57, 58, 59, 35, 60, 61, 62, 63, 2, 80, 81, 82, 83, 84, 85, 86, 87, 88, 89, 90, 91] (by decide +kernel) (by decide +kernel)) (goodIn_sub (fun _ h => List.mem_cons_of_mem _ (List.mem_append_left _ (List.mem_append_left _ (List.mem_append_right _ h)))) (by decide +kernel))
set_option maxRecDepth 20000 in
theorem gX0_apologize_X0_leastWorthHeard : GoodIn wsX0_apologize (wsV RX0 81 RX0 yX0_leastWorthHeard wsX0_leastWorthHeard) := goodIn_app (goodIn_of _ (by decide +kernel)) ggX0_apologize_X0_leastWorthHeard
set_option maxRecDepth 20000 in
theorem ggX0_apologize_X0_speakOf : GoodIn wsX0_apologize wsX0_speakOf := goodIn_ca (goodIn_r _ [67, 2, 68, 69, 45, 70, 71, 3, 4, 5, 6, 7, 8, 9, 10, 80, 81, 82, 83, 84, 85, 86, 87, 88, 89, 90, 91] (by decide +kernel) (by decide +kernel)) (goodIn_sub (fun _ h => List.mem_cons_of_mem _ (List.mem_append_left _ (List.mem_append_left _ (List.mem_append_right _ h)))) (by decide +kernel))
set_option maxRecDepth 20000 in
theorem gX0_apologize_X0_speakOf : GoodIn wsX0_apologize (wsV RX0 71 RX0 yX0_speakOf wsX0_speakOf) := goodIn_app (goodIn_of _ (by decide +kernel)) ggX0_apologize_X0_speakOf
set_option maxRecDepth 20000 in
theorem ggX0_apologize_X0_lighten : GoodIn wsX0_apologize wsX0_lighten := goodIn_ca (goodIn_r _ [75, 2, 3, 4, 5, 6, 7, 8, 9, 10, 76, 77, 78, 79, 26, 80, 81, 82, 83, 84, 85, 86, 87, 88, 89, 90, 91] (by decide +kernel) (by decide +kernel)) (goodIn_sub (fun _ h => List.mem_cons_of_mem _ (List.mem_append_left _ (List.mem_append_left _ (List.mem_append_right _ h)))) (by decide +kernel))
set_option maxRecDepth 20000 in
theorem gX0_apologize_X0_lighten : GoodIn wsX0_apologize (wsV RX0 88 RX0 yX0_lighten wsX0_lighten) := goodIn_app (goodIn_of _ (by decide +kernel)) ggX0_apologize_X0_lighten
theorem dX0_apologize_0 : decode cX0_apologize 0 = .ok (.aload_n 0, 1) := by decide +kernel
theorem dX0_apologize_1 : decode cX0_apologize 1 = .ok (.iload_n 1, 1) := by decide +kernel
theorem dX0_apologize_2 : decode cX0_apologize 2 = .ok (.invokevirtual 65, 3) := by decide +kernel
theorem dX0_apologize_5 : decode cX0_apologize 5 = .ok (.iload_n 2, 1) := by decide +kernel
theorem dX0_apologize_6 : decode cX0_apologize 6 = .ok (.invokestatic 74, 3) := by decide +kernel
theorem dX0_apologize_9 : decode cX0_apologize 9 = .ok (.aload_n 0, 1) := by decide +kernel
theorem dX0_apologize_10 : decode cX0_apologize 10 = .ok (.iload_n 1, 1) := by decide +kernel
theorem dX0_apologize_11 : decode cX0_apologize 11 = .ok (.invokevirtual 68, 3) := by decide +kernel
theorem dX0_apologize_14 : decode cX0_apologize 14 = .ok (.aload_n 0, 1) := by decide +kernel
theorem dX0_apologize_15 : decode cX0_apologize 15 = .ok (.iload_n 1, 1) := by decide +kernel
theorem dX0_apologize_16 : decode cX0_apologize 16 = .ok (.iload_n 2, 1) := by decide +kernel
theorem dX0_apologize_17 : decode cX0_apologize 17 = .ok (.invokevirtual 77, 3) := by decide +kernel
theorem dX0_apologize_20 : decode cX0_apologize 20 = .ok (.istore_n 3, 1) := by decide +kernel
theorem dX0_apologize_21 : decode cX0_apologize 21 = .ok (.iload_n 3, 1) := by decide +kernel
theorem dX0_apologize_22 : decode cX0_apologize 22 = .ok (.aload_n 0, 1) := by decide +kernel
theorem dX0_apologize_23 : decode cX0_apologize 23 = .ok (.iload_n 1, 1) := by decide +kernel
theorem dX0_apologize_24 : decode cX0_apologize 24 = .ok (.invokevirtual 81, 3) := by decide +kernel
theorem dX0_apologize_27 : decode cX0_apologize 27 = .ok (.if_icmp .ge 21, 3) := by decide +kernel
theorem dX0_apologize_30 : decode cX0_apologize 30 = .ok (.aload_n 0, 1) := by decide +kernel
theorem dX0_apologize_31 : decode cX0_apologize 31 = .ok (.dup, 1) := by decide +kernel
theorem dX0_apologize_32 : decode cX0_apologize 32 = .ok (.getfield 85, 3) := by decide +kernel
theorem dX0_apologize_35 : decode cX0_apologize 35 = .ok (.iconst 1, 1) := by decide +kernel
theorem dX0_apologize_36 : decode cX0_apologize 36 = .ok (.iadd, 1) := by decide +kernel
theorem dX0_apologize_37 : decode cX0_apologize 37 = .ok (.putfield 85, 3) := by decide +kernel
theorem dX0_apologize_40 : decode cX0_apologize 40 = .ok (.aload_n 0, 1) := by decide +kernel
theorem dX0_apologize_41 : decode cX0_apologize 41 = .ok (.iload_n 1, 1) := by decide +kernel
theorem dX0_apologize_42 : decode cX0_apologize 42 = .ok (.invokevirtual 71, 3) := by decide +kernel
theorem dX0_apologize_45 : decode cX0_apologize 45 = .ok (.goto 10, 3) := by decide +kernel
theorem dX0_apologize_48 : decode cX0_apologize 48 = .ok (.aload_n 0, 1) := by decide +kernel
theorem dX0_apologize_49 : decode cX0_apologize 49 = .ok (.iload_n 1, 1) := by decide +kernel
theorem dX0_apologize_50 : decode cX0_apologize 50 = .ok (.iload_n 3, 1) := by decide +kernel
theorem dX0_apologize_51 : decode cX0_apologize 51 = .ok (.iconst 1, 1) := by decide +kernel
theorem dX0_apologize_52 : decode cX0_apologize 52 = .ok (.invokevirtual 88, 3) := by decide +kernel
theorem dX0_apologize_55 : decode cX0_apologize 55 = .ok (.aload_n 0, 1) := by decide +kernel
theorem dX0_apologize_56 : decode cX0_apologize 56 = .ok (.getfield 23, 3) := by decide +kernel
theorem dX0_apologize_59 : decode cX0_apologize 59 = .ok (.iload_n 1, 1) := by decide +kernel
theorem dX0_apologize_60 : decode cX0_apologize 60 = .ok (.iaload, 1) := by decide +kernel
theorem dX0_apologize_61 : decode cX0_apologize 61 = .ok (.ireturn, 1) := by decide +kernel
set_option maxRecDepth 20000 in
theorem ggX0_setOff_X0_requireSlight : GoodIn wsX0_setOff wsX0_requireSlight := goodIn_ca (goodIn_r _ [12, 13, 14, 15, 47, 48, 49, 50, 51, 52, 53, 54, 55, 56, 57, 58] (by decide +kernel) (by decide +kernel)) (goodIn_sub (fun _ h => List.mem_cons_of_mem _ (List.mem_append_right _ h)) (by decide +kernel))
set_option maxRecDepth 20000 in
theorem gX0_setOff_X0_requireSlight : GoodIn wsX0_setOff (wsV RX0 65 RX0 yX0_requireSlight wsX0_requireSlight) := goodIn_app (goodIn_of _ (by decide +kernel)) ggX0_setOff_X0_requireSlight
set_option maxRecDepth 20000 in
theorem ggX0_setOff_X0_requireOpen : GoodIn wsX0_setOff wsX0_requireOpen := goodIn_ca (goodIn_ca (goodIn_r _ [19, 1, 2, 20, 21, 22, 11, 23, 24, 8, 9, 10, 12, 13, 14, 15, 47, 48, 49, 50, 51, 52, 53, 54, 55, 56, 57, 58] (by decide +kernel) (by decide +kernel)) (goodIn_sub (fun _ h => List.mem_cons_of_mem _ (List.mem_append_left _ (List.mem_append_right _ h))) (by decide +kernel))) (goodIn_sub (fun _ h => List.mem_cons_of_mem _ (List.mem_append_right _ h)) (by decide +kernel))
set_option maxRecDepth 20000 in
theorem gX0_setOff_X0_requireOpen : GoodIn wsX0_setOff (wsV RX0 68 RX0 yX0_requireOpen wsX0_requireOpen) := goodIn_app (goodIn_of _ (by decide +kernel)) ggX0_setOff_X0_requireOpen
set_option maxRecDepth 20000 in
theorem ggX0_setOff_X0_areAgainstEachOther : GoodIn wsX0_setOff wsX0_areAgainstEachOther := goodIn_ca (goodIn_r _ [28, 29, 30, 31, 11, 32, 33, 8, 9, 10, 12, 13, 14, 15, 34, 35, 36, 37, 38, 47, 48, 49, 50, 51, 52, 53, 54, 55, 56, 57, 58] (by decide +kernel) (by decide +kernel)) (goodIn_sub (fun _ h => List.mem_cons_of_mem _ (List.mem_append_right _ h)) (by decide +kernel))
set_option maxRecDepth 20000 in
theorem gX0_setOff_X0_areAgainstEachOther : GoodIn wsX0_setOff (wsV RX0 92 RX0 yX0_areAgainstEachOther wsX0_areAgainstEachOther) := goodIn_app (goodIn_of _ (by decide +kernel)) ggX0_setOff_X0_areAgainstEachOther
set_option maxRecDepth 20000 in
theorem ggX0_setOff_X0_lighten : GoodIn wsX0_setOff wsX0_lighten := goodIn_ca (goodIn_r _ [42, 3, 8, 9, 10, 11, 12, 13, 14, 15, 43, 44, 45, 46, 24, 47, 48, 49, 50, 51, 52, 53, 54, 55, 56, 57, 58] (by decide +kernel) (by decide +kernel)) (goodIn_sub (fun _ h => List.mem_cons_of_mem _ (List.mem_append_right _ h)) (by decide +kernel))
set_option maxRecDepth 20000 in
theorem gX0_setOff_X0_lighten : GoodIn wsX0_setOff (wsV RX0 88 RX0 yX0_lighten wsX0_lighten) := goodIn_app (goodIn_of _ (by decide +kernel)) ggX0_setOff_X0_lighten
theorem dX0_setOff_0 : decode cX0_setOff 0 = .ok (.aload_n 0, 1) := by decide +kernel
theorem dX0_setOff_1 : decode cX0_setOff 1 = .ok (.iload_n 1, 1) := by decide +kernel
theorem dX0_setOff_2 : decode cX0_setOff 2 = .ok (.invokevirtual 65, 3) := by decide +kernel
theorem dX0_setOff_5 : decode cX0_setOff 5 = .ok (.aload_n 0, 1) := by decide +kernel
theorem dX0_setOff_6 : decode cX0_setOff 6 = .ok (.iload_n 2, 1) := by decide +kernel
theorem dX0_setOff_7 : decode cX0_setOff 7 = .ok (.invokevirtual 65, 3) := by decide +kernel
theorem dX0_setOff_10 : decode cX0_setOff 10 = .ok (.aload_n 0, 1) := by decide +kernel
theorem dX0_setOff_11 : decode cX0_setOff 11 = .ok (.iload_n 1, 1) := by decide +kernel
theorem dX0_setOff_12 : decode cX0_setOff 12 = .ok (.invokevirtual 68, 3) := by decide +kernel
theorem dX0_setOff_15 : decode cX0_setOff 15 = .ok (.aload_n 0, 1) := by decide +kernel
theorem dX0_setOff_16 : decode cX0_setOff 16 = .ok (.iload_n 2, 1) := by decide +kernel
theorem dX0_setOff_17 : decode cX0_setOff 17 = .ok (.invokevirtual 68, 3) := by decide +kernel
theorem dX0_setOff_20 : decode cX0_setOff 20 = .ok (.aload_n 0, 1) := by decide +kernel
theorem dX0_setOff_21 : decode cX0_setOff 21 = .ok (.iload_n 1, 1) := by decide +kernel
theorem dX0_setOff_22 : decode cX0_setOff 22 = .ok (.iload_n 2, 1) := by decide +kernel
theorem dX0_setOff_23 : decode cX0_setOff 23 = .ok (.invokevirtual 92, 3) := by decide +kernel
theorem dX0_setOff_26 : decode cX0_setOff 26 = .ok (.ifCond .ne 13, 3) := by decide +kernel
theorem dX0_setOff_29 : decode cX0_setOff 29 = .ok (.new 43, 3) := by decide +kernel
theorem dX0_setOff_32 : decode cX0_setOff 32 = .ok (.dup, 1) := by decide +kernel
theorem dX0_setOff_33 : decode cX0_setOff 33 = .ok (.ldc 96, 2) := by decide +kernel
theorem dX0_setOff_35 : decode cX0_setOff 35 = .ok (.invokespecial 47, 3) := by decide +kernel
theorem dX0_setOff_38 : decode cX0_setOff 38 = .ok (.athrow, 1) := by decide +kernel
theorem dX0_setOff_39 : decode cX0_setOff 39 = .ok (.aload_n 0, 1) := by decide +kernel
theorem dX0_setOff_40 : decode cX0_setOff 40 = .ok (.getfield 23, 3) := by decide +kernel
theorem dX0_setOff_43 : decode cX0_setOff 43 = .ok (.iload_n 1, 1) := by decide +kernel
theorem dX0_setOff_44 : decode cX0_setOff 44 = .ok (.iaload, 1) := by decide +kernel
theorem dX0_setOff_45 : decode cX0_setOff 45 = .ok (.aload_n 0, 1) := by decide +kernel
theorem dX0_setOff_46 : decode cX0_setOff 46 = .ok (.getfield 23, 3) := by decide +kernel
theorem dX0_setOff_49 : decode cX0_setOff 49 = .ok (.iload_n 2, 1) := by decide +kernel
theorem dX0_setOff_50 : decode cX0_setOff 50 = .ok (.iaload, 1) := by decide +kernel
theorem dX0_setOff_51 : decode cX0_setOff 51 = .ok (.invokestatic 98, 3) := by decide +kernel
theorem dX0_setOff_54 : decode cX0_setOff 54 = .ok (.istore_n 3, 1) := by decide +kernel
theorem dX0_setOff_55 : decode cX0_setOff 55 = .ok (.aload_n 0, 1) := by decide +kernel
theorem dX0_setOff_56 : decode cX0_setOff 56 = .ok (.iload_n 1, 1) := by decide +kernel
theorem dX0_setOff_57 : decode cX0_setOff 57 = .ok (.iload_n 3, 1) := by decide +kernel
theorem dX0_setOff_58 : decode cX0_setOff 58 = .ok (.iconst 3, 1) := by decide +kernel
theorem dX0_setOff_59 : decode cX0_setOff 59 = .ok (.invokevirtual 88, 3) := by decide +kernel
theorem dX0_setOff_62 : decode cX0_setOff 62 = .ok (.aload_n 0, 1) := by decide +kernel
theorem dX0_setOff_63 : decode cX0_setOff 63 = .ok (.iload_n 2, 1) := by decide +kernel
theorem dX0_setOff_64 : decode cX0_setOff 64 = .ok (.iload_n 3, 1) := by decide +kernel
theorem dX0_setOff_65 : decode cX0_setOff 65 = .ok (.iconst 3, 1) := by decide +kernel
theorem dX0_setOff_66 : decode cX0_setOff 66 = .ok (.invokevirtual 88, 3) := by decide +kernel
theorem dX0_setOff_69 : decode cX0_setOff 69 = .ok (.iload_n 3, 1) := by decide +kernel
theorem dX0_setOff_70 : decode cX0_setOff 70 = .ok (.ireturn, 1) := by decide +kernel
set_option maxRecDepth 20000 in
theorem ggX0_setPride_X0_requirePerson : GoodIn wsX0_setPride wsX0_requirePerson := goodIn_ca (goodIn_r _ [6, 7, 8, 9, 15, 16, 17, 18, 19, 20, 21, 22, 23, 24, 25, 26] (by decide +kernel) (by decide +kernel)) (goodIn_sub (fun _ h => List.mem_cons_of_mem _ (List.mem_append_left _ (List.mem_append_right _ h))) (by decide +kernel))
set_option maxRecDepth 20000 in
theorem gX0_setPride_X0_requirePerson : GoodIn wsX0_setPride (wsV RX0 50 RX0 yX0_requirePerson wsX0_requirePerson) := goodIn_app (goodIn_of _ (by decide +kernel)) ggX0_setPride_X0_requirePerson
set_option maxRecDepth 20000 in
theorem ggX0_setPride_X0_requirePride : GoodIn wsX0_setPride wsX0_requirePride := goodIn_ca (goodIn_r _ [12, 13, 14] (by decide +kernel) (by decide +kernel)) (goodIn_sub (fun _ h => List.mem_cons_of_mem _ (List.mem_append_right _ h)) (by decide +kernel))
set_option maxRecDepth 20000 in
theorem gX0_setPride_X0_requirePride : GoodIn wsX0_setPride (va_wsS RX0 35 yX0_requirePride wsX0_requirePride) := goodIn_app (goodIn_of _ (by decide +kernel)) ggX0_setPride_X0_requirePride
theorem dX0_setPride_0 : decode cX0_setPride 0 = .ok (.aload_n 0, 1) := by decide +kernel
theorem dX0_setPride_1 : decode cX0_setPride 1 = .ok (.iload_n 1, 1) := by decide +kernel
theorem dX0_setPride_2 : decode cX0_setPride 2 = .ok (.invokevirtual 50, 3) := by decide +kernel
theorem dX0_setPride_5 : decode cX0_setPride 5 = .ok (.iload_n 2, 1) := by decide +kernel
theorem dX0_setPride_6 : decode cX0_setPride 6 = .ok (.invokestatic 35, 3) := by decide +kernel
theorem dX0_setPride_9 : decode cX0_setPride 9 = .ok (.aload_n 0, 1) := by decide +kernel
theorem dX0_setPride_10 : decode cX0_setPride 10 = .ok (.getfield 9, 3) := by decide +kernel
theorem dX0_setPride_13 : decode cX0_setPride 13 = .ok (.iload_n 1, 1) := by decide +kernel
theorem dX0_setPride_14 : decode cX0_setPride 14 = .ok (.iaload, 1) := by decide +kernel
theorem dX0_setPride_15 : decode cX0_setPride 15 = .ok (.istore_n 3, 1) := by decide +kernel
theorem dX0_setPride_16 : decode cX0_setPride 16 = .ok (.aload_n 0, 1) := by decide +kernel
theorem dX0_setPride_17 : decode cX0_setPride 17 = .ok (.getfield 9, 3) := by decide +kernel
theorem dX0_setPride_20 : decode cX0_setPride 20 = .ok (.iload_n 1, 1) := by decide +kernel
theorem dX0_setPride_21 : decode cX0_setPride 21 = .ok (.iload_n 2, 1) := by decide +kernel
theorem dX0_setPride_22 : decode cX0_setPride 22 = .ok (.iastore, 1) := by decide +kernel
theorem dX0_setPride_23 : decode cX0_setPride 23 = .ok (.iload_n 3, 1) := by decide +kernel
theorem dX0_setPride_24 : decode cX0_setPride 24 = .ok (.ireturn, 1) := by decide +kernel
set_option maxRecDepth 20000 in
theorem ggX0_pass_X0_requireDays : GoodIn wsX0_pass wsX0_requireDays := goodIn_ca (goodIn_r _ [4, 5, 6] (by decide +kernel) (by decide +kernel)) (goodIn_sub (fun _ h => List.mem_cons_of_mem _ (List.mem_append_left _ (List.mem_append_right _ h))) (by decide +kernel))
set_option maxRecDepth 20000 in
theorem gX0_pass_X0_requireDays : GoodIn wsX0_pass (va_wsS RX0 103 yX0_requireDays wsX0_requireDays) := goodIn_app (goodIn_of _ (by decide +kernel)) ggX0_pass_X0_requireDays
set_option maxRecDepth 20000 in
theorem ggX0_pass_X0_passOneDay : GoodIn wsX0_pass wsX0_passOneDay := goodIn_ca (goodIn_r _ [10, 11, 12, 13, 14, 15, 16, 3, 17, 18, 19, 20, 21, 22, 23, 24, 25, 26, 27, 28, 29, 30, 31, 32, 33, 34, 35, 36, 37, 38, 39, 40, 41, 42, 43, 44, 45, 46, 47, 48, 49, 50, 51, 52] (by decide +kernel) (by decide +kernel)) (goodIn_sub (fun _ h => List.mem_cons_of_mem _ (List.mem_append_right _ h)) (by decide +kernel))
set_option maxRecDepth 20000 in
theorem gX0_pass_X0_passOneDay : GoodIn wsX0_pass (wsV RX0 106 RX0 yX0_passOneDay wsX0_passOneDay) := goodIn_app (goodIn_of _ (by decide +kernel)) ggX0_pass_X0_passOneDay
theorem dX0_pass_0 : decode cX0_pass 0 = .ok (.iload_n 1, 1) := by decide +kernel
theorem dX0_pass_1 : decode cX0_pass 1 = .ok (.invokestatic 103, 3) := by decide +kernel
theorem dX0_pass_4 : decode cX0_pass 4 = .ok (.iconst 0, 1) := by decide +kernel
theorem dX0_pass_5 : decode cX0_pass 5 = .ok (.istore_n 2, 1) := by decide +kernel
theorem dX0_pass_6 : decode cX0_pass 6 = .ok (.iconst 0, 1) := by decide +kernel
theorem dX0_pass_7 : decode cX0_pass 7 = .ok (.istore_n 3, 1) := by decide +kernel
theorem dX0_pass_8 : decode cX0_pass 8 = .ok (.iload_n 3, 1) := by decide +kernel
theorem dX0_pass_9 : decode cX0_pass 9 = .ok (.iload_n 1, 1) := by decide +kernel
theorem dX0_pass_10 : decode cX0_pass 10 = .ok (.if_icmp .ge 16, 3) := by decide +kernel
theorem dX0_pass_13 : decode cX0_pass 13 = .ok (.iload_n 2, 1) := by decide +kernel
theorem dX0_pass_14 : decode cX0_pass 14 = .ok (.aload_n 0, 1) := by decide +kernel
theorem dX0_pass_15 : decode cX0_pass 15 = .ok (.invokevirtual 106, 3) := by decide +kernel
theorem dX0_pass_18 : decode cX0_pass 18 = .ok (.iadd, 1) := by decide +kernel
theorem dX0_pass_19 : decode cX0_pass 19 = .ok (.istore_n 2, 1) := by decide +kernel
theorem dX0_pass_20 : decode cX0_pass 20 = .ok (.iinc 3 1, 3) := by decide +kernel
theorem dX0_pass_23 : decode cX0_pass 23 = .ok (.goto (-15), 3) := by decide +kernel
theorem dX0_pass_26 : decode cX0_pass 26 = .ok (.iload_n 2, 1) := by decide +kernel
theorem dX0_pass_27 : decode cX0_pass 27 = .ok (.ireturn, 1) := by decide +kernel
theorem dX0_day_0 : decode cX0_day 0 = .ok (.aload_n 0, 1) := by decide +kernel
theorem dX0_day_1 : decode cX0_day 1 = .ok (.getfield 110, 3) := by decide +kernel
theorem dX0_day_4 : decode cX0_day 4 = .ok (.ireturn, 1) := by decide +kernel
theorem dX0_persons_0 : decode cX0_persons 0 = .ok (.aload_n 0, 1) := by decide +kernel
theorem dX0_persons_1 : decode cX0_persons 1 = .ok (.getfield 39, 3) := by decide +kernel
theorem dX0_persons_4 : decode cX0_persons 4 = .ok (.ireturn, 1) := by decide +kernel
theorem dX0_slights_0 : decode cX0_slights 0 = .ok (.aload_n 0, 1) := by decide +kernel
theorem dX0_slights_1 : decode cX0_slights 1 = .ok (.getfield 60, 3) := by decide +kernel
theorem dX0_slights_4 : decode cX0_slights 4 = .ok (.ireturn, 1) := by decide +kernel
theorem dX0_inHall_0 : decode cX0_inHall 0 = .ok (.iconst 0, 1) := by decide +kernel
theorem dX0_inHall_1 : decode cX0_inHall 1 = .ok (.istore_n 1, 1) := by decide +kernel
theorem dX0_inHall_2 : decode cX0_inHall 2 = .ok (.iconst 0, 1) := by decide +kernel
theorem dX0_inHall_3 : decode cX0_inHall 3 = .ok (.istore_n 2, 1) := by decide +kernel
theorem dX0_inHall_4 : decode cX0_inHall 4 = .ok (.iload_n 2, 1) := by decide +kernel
theorem dX0_inHall_5 : decode cX0_inHall 5 = .ok (.aload_n 0, 1) := by decide +kernel
theorem dX0_inHall_6 : decode cX0_inHall 6 = .ok (.getfield 39, 3) := by decide +kernel
theorem dX0_inHall_9 : decode cX0_inHall 9 = .ok (.if_icmp .ge 21, 3) := by decide +kernel
theorem dX0_inHall_12 : decode cX0_inHall 12 = .ok (.aload_n 0, 1) := by decide +kernel
theorem dX0_inHall_13 : decode cX0_inHall 13 = .ok (.getfield 13, 3) := by decide +kernel
theorem dX0_inHall_16 : decode cX0_inHall 16 = .ok (.iload_n 2, 1) := by decide +kernel
theorem dX0_inHall_17 : decode cX0_inHall 17 = .ok (.baload, 1) := by decide +kernel
theorem dX0_inHall_18 : decode cX0_inHall 18 = .ok (.ifCond .eq 6, 3) := by decide +kernel
theorem dX0_inHall_21 : decode cX0_inHall 21 = .ok (.iinc 1 1, 3) := by decide +kernel
theorem dX0_inHall_24 : decode cX0_inHall 24 = .ok (.iinc 2 1, 3) := by decide +kernel
theorem dX0_inHall_27 : decode cX0_inHall 27 = .ok (.goto (-23), 3) := by decide +kernel
theorem dX0_inHall_30 : decode cX0_inHall 30 = .ok (.iload_n 1, 1) := by decide +kernel
theorem dX0_inHall_31 : decode cX0_inHall 31 = .ok (.ireturn, 1) := by decide +kernel
theorem dX0_scorned_0 : decode cX0_scorned 0 = .ok (.aload_n 0, 1) := by decide +kernel
theorem dX0_scorned_1 : decode cX0_scorned 1 = .ok (.getfield 85, 3) := by decide +kernel
theorem dX0_scorned_4 : decode cX0_scorned 4 = .ok (.ireturn, 1) := by decide +kernel
set_option maxRecDepth 20000 in
theorem ggX0_isInHall_X0_requirePerson : GoodIn wsX0_isInHall wsX0_requirePerson := goodIn_ca (goodIn_r _ [6, 7, 8, 9, 10, 11, 12, 13, 14, 15, 16, 17, 18, 19, 20, 21] (by decide +kernel) (by decide +kernel)) (goodIn_sub (fun _ h => List.mem_cons_of_mem _ (List.mem_append_right _ h)) (by decide +kernel))
set_option maxRecDepth 20000 in
theorem gX0_isInHall_X0_requirePerson : GoodIn wsX0_isInHall (wsV RX0 50 RX0 yX0_requirePerson wsX0_requirePerson) := goodIn_app (goodIn_of _ (by decide +kernel)) ggX0_isInHall_X0_requirePerson
theorem dX0_isInHall_0 : decode cX0_isInHall 0 = .ok (.aload_n 0, 1) := by decide +kernel
theorem dX0_isInHall_1 : decode cX0_isInHall 1 = .ok (.iload_n 1, 1) := by decide +kernel
theorem dX0_isInHall_2 : decode cX0_isInHall 2 = .ok (.invokevirtual 50, 3) := by decide +kernel
theorem dX0_isInHall_5 : decode cX0_isInHall 5 = .ok (.aload_n 0, 1) := by decide +kernel
theorem dX0_isInHall_6 : decode cX0_isInHall 6 = .ok (.getfield 13, 3) := by decide +kernel
theorem dX0_isInHall_9 : decode cX0_isInHall 9 = .ok (.iload_n 1, 1) := by decide +kernel
theorem dX0_isInHall_10 : decode cX0_isInHall 10 = .ok (.baload, 1) := by decide +kernel
theorem dX0_isInHall_11 : decode cX0_isInHall 11 = .ok (.ireturn, 1) := by decide +kernel
set_option maxRecDepth 20000 in
theorem ggX0_prideOf_X0_requirePerson : GoodIn wsX0_prideOf wsX0_requirePerson := goodIn_ca (goodIn_r _ [6, 7, 8, 9, 10, 11, 12, 13, 14, 15, 16, 17, 18, 19, 20, 21] (by decide +kernel) (by decide +kernel)) (goodIn_sub (fun _ h => List.mem_cons_of_mem _ (List.mem_append_right _ h)) (by decide +kernel))
set_option maxRecDepth 20000 in
theorem gX0_prideOf_X0_requirePerson : GoodIn wsX0_prideOf (wsV RX0 50 RX0 yX0_requirePerson wsX0_requirePerson) := goodIn_app (goodIn_of _ (by decide +kernel)) ggX0_prideOf_X0_requirePerson
theorem dX0_prideOf_0 : decode cX0_prideOf 0 = .ok (.aload_n 0, 1) := by decide +kernel
theorem dX0_prideOf_1 : decode cX0_prideOf 1 = .ok (.iload_n 1, 1) := by decide +kernel
theorem dX0_prideOf_2 : decode cX0_prideOf 2 = .ok (.invokevirtual 50, 3) := by decide +kernel
theorem dX0_prideOf_5 : decode cX0_prideOf 5 = .ok (.aload_n 0, 1) := by decide +kernel
theorem dX0_prideOf_6 : decode cX0_prideOf 6 = .ok (.getfield 9, 3) := by decide +kernel
theorem dX0_prideOf_9 : decode cX0_prideOf 9 = .ok (.iload_n 1, 1) := by decide +kernel
theorem dX0_prideOf_10 : decode cX0_prideOf 10 = .ok (.iaload, 1) := by decide +kernel
theorem dX0_prideOf_11 : decode cX0_prideOf 11 = .ok (.ireturn, 1) := by decide +kernel
set_option maxRecDepth 20000 in
theorem ggX0_borneBy_X0_requirePerson : GoodIn wsX0_borneBy wsX0_requirePerson := goodIn_ca (goodIn_r _ [9, 10, 11, 12, 13, 14, 15, 16, 17, 18, 19, 20, 21, 22, 23, 24] (by decide +kernel) (by decide +kernel)) (goodIn_sub (fun _ h => List.mem_cons_of_mem _ (List.mem_append_right _ h)) (by decide +kernel))
set_option maxRecDepth 20000 in
theorem gX0_borneBy_X0_requirePerson : GoodIn wsX0_borneBy (wsV RX0 50 RX0 yX0_requirePerson wsX0_requirePerson) := goodIn_app (goodIn_of _ (by decide +kernel)) ggX0_borneBy_X0_requirePerson
theorem dX0_borneBy_0 : decode cX0_borneBy 0 = .ok (.aload_n 0, 1) := by decide +kernel
theorem dX0_borneBy_1 : decode cX0_borneBy 1 = .ok (.iload_n 1, 1) := by decide +kernel
theorem dX0_borneBy_2 : decode cX0_borneBy 2 = .ok (.invokevirtual 50, 3) := by decide +kernel
theorem dX0_borneBy_5 : decode cX0_borneBy 5 = .ok (.iconst 0, 1) := by decide +kernel
theorem dX0_borneBy_6 : decode cX0_borneBy 6 = .ok (.istore_n 2, 1) := by decide +kernel
theorem dX0_borneBy_7 : decode cX0_borneBy 7 = .ok (.iconst 0, 1) := by decide +kernel
theorem dX0_borneBy_8 : decode cX0_borneBy 8 = .ok (.istore_n 3, 1) := by decide +kernel
theorem dX0_borneBy_9 : decode cX0_borneBy 9 = .ok (.iload_n 3, 1) := by decide +kernel
theorem dX0_borneBy_10 : decode cX0_borneBy 10 = .ok (.aload_n 0, 1) := by decide +kernel
theorem dX0_borneBy_11 : decode cX0_borneBy 11 = .ok (.getfield 60, 3) := by decide +kernel
theorem dX0_borneBy_14 : decode cX0_borneBy 14 = .ok (.if_icmp .ge 37, 3) := by decide +kernel
theorem dX0_borneBy_17 : decode cX0_borneBy 17 = .ok (.aload_n 0, 1) := by decide +kernel
theorem dX0_borneBy_18 : decode cX0_borneBy 18 = .ok (.getfield 26, 3) := by decide +kernel
theorem dX0_borneBy_21 : decode cX0_borneBy 21 = .ok (.iload_n 3, 1) := by decide +kernel
theorem dX0_borneBy_22 : decode cX0_borneBy 22 = .ok (.iaload, 1) := by decide +kernel
theorem dX0_borneBy_23 : decode cX0_borneBy 23 = .ok (.ifCond .ne 22, 3) := by decide +kernel
theorem dX0_borneBy_26 : decode cX0_borneBy 26 = .ok (.aload_n 0, 1) := by decide +kernel
theorem dX0_borneBy_27 : decode cX0_borneBy 27 = .ok (.getfield 20, 3) := by decide +kernel
theorem dX0_borneBy_30 : decode cX0_borneBy 30 = .ok (.iload_n 3, 1) := by decide +kernel
theorem dX0_borneBy_31 : decode cX0_borneBy 31 = .ok (.iaload, 1) := by decide +kernel
theorem dX0_borneBy_32 : decode cX0_borneBy 32 = .ok (.iload_n 1, 1) := by decide +kernel
theorem dX0_borneBy_33 : decode cX0_borneBy 33 = .ok (.if_icmp .ne 12, 3) := by decide +kernel
theorem dX0_borneBy_36 : decode cX0_borneBy 36 = .ok (.iload_n 2, 1) := by decide +kernel
theorem dX0_borneBy_37 : decode cX0_borneBy 37 = .ok (.aload_n 0, 1) := by decide +kernel
theorem dX0_borneBy_38 : decode cX0_borneBy 38 = .ok (.getfield 23, 3) := by decide +kernel
theorem dX0_borneBy_41 : decode cX0_borneBy 41 = .ok (.iload_n 3, 1) := by decide +kernel
theorem dX0_borneBy_42 : decode cX0_borneBy 42 = .ok (.iaload, 1) := by decide +kernel
theorem dX0_borneBy_43 : decode cX0_borneBy 43 = .ok (.iadd, 1) := by decide +kernel
theorem dX0_borneBy_44 : decode cX0_borneBy 44 = .ok (.istore_n 2, 1) := by decide +kernel
theorem dX0_borneBy_45 : decode cX0_borneBy 45 = .ok (.iinc 3 1, 3) := by decide +kernel
theorem dX0_borneBy_48 : decode cX0_borneBy 48 = .ok (.goto (-39), 3) := by decide +kernel
theorem dX0_borneBy_51 : decode cX0_borneBy 51 = .ok (.iload_n 2, 1) := by decide +kernel
theorem dX0_borneBy_52 : decode cX0_borneBy 52 = .ok (.ireturn, 1) := by decide +kernel
set_option maxRecDepth 20000 in
theorem ggX0_owedBy_X0_requirePerson : GoodIn wsX0_owedBy wsX0_requirePerson := goodIn_ca (goodIn_r _ [9, 10, 11, 12, 13, 14, 15, 16, 17, 18, 19, 20, 21, 22, 23, 24] (by decide +kernel) (by decide +kernel)) (goodIn_sub (fun _ h => List.mem_cons_of_mem _ (List.mem_append_right _ h)) (by decide +kernel))
set_option maxRecDepth 20000 in
theorem gX0_owedBy_X0_requirePerson : GoodIn wsX0_owedBy (wsV RX0 50 RX0 yX0_requirePerson wsX0_requirePerson) := goodIn_app (goodIn_of _ (by decide +kernel)) ggX0_owedBy_X0_requirePerson
theorem dX0_owedBy_0 : decode cX0_owedBy 0 = .ok (.aload_n 0, 1) := by decide +kernel
theorem dX0_owedBy_1 : decode cX0_owedBy 1 = .ok (.iload_n 1, 1) := by decide +kernel
theorem dX0_owedBy_2 : decode cX0_owedBy 2 = .ok (.invokevirtual 50, 3) := by decide +kernel
theorem dX0_owedBy_5 : decode cX0_owedBy 5 = .ok (.iconst 0, 1) := by decide +kernel
theorem dX0_owedBy_6 : decode cX0_owedBy 6 = .ok (.istore_n 2, 1) := by decide +kernel
theorem dX0_owedBy_7 : decode cX0_owedBy 7 = .ok (.iconst 0, 1) := by decide +kernel
theorem dX0_owedBy_8 : decode cX0_owedBy 8 = .ok (.istore_n 3, 1) := by decide +kernel
theorem dX0_owedBy_9 : decode cX0_owedBy 9 = .ok (.iload_n 3, 1) := by decide +kernel
theorem dX0_owedBy_10 : decode cX0_owedBy 10 = .ok (.aload_n 0, 1) := by decide +kernel
theorem dX0_owedBy_11 : decode cX0_owedBy 11 = .ok (.getfield 60, 3) := by decide +kernel
theorem dX0_owedBy_14 : decode cX0_owedBy 14 = .ok (.if_icmp .ge 37, 3) := by decide +kernel
theorem dX0_owedBy_17 : decode cX0_owedBy 17 = .ok (.aload_n 0, 1) := by decide +kernel
theorem dX0_owedBy_18 : decode cX0_owedBy 18 = .ok (.getfield 26, 3) := by decide +kernel
theorem dX0_owedBy_21 : decode cX0_owedBy 21 = .ok (.iload_n 3, 1) := by decide +kernel
theorem dX0_owedBy_22 : decode cX0_owedBy 22 = .ok (.iaload, 1) := by decide +kernel
theorem dX0_owedBy_23 : decode cX0_owedBy 23 = .ok (.ifCond .ne 22, 3) := by decide +kernel
theorem dX0_owedBy_26 : decode cX0_owedBy 26 = .ok (.aload_n 0, 1) := by decide +kernel
theorem dX0_owedBy_27 : decode cX0_owedBy 27 = .ok (.getfield 17, 3) := by decide +kernel
theorem dX0_owedBy_30 : decode cX0_owedBy 30 = .ok (.iload_n 3, 1) := by decide +kernel
theorem dX0_owedBy_31 : decode cX0_owedBy 31 = .ok (.iaload, 1) := by decide +kernel
theorem dX0_owedBy_32 : decode cX0_owedBy 32 = .ok (.iload_n 1, 1) := by decide +kernel
theorem dX0_owedBy_33 : decode cX0_owedBy 33 = .ok (.if_icmp .ne 12, 3) := by decide +kernel
theorem dX0_owedBy_36 : decode cX0_owedBy 36 = .ok (.iload_n 2, 1) := by decide +kernel
theorem dX0_owedBy_37 : decode cX0_owedBy 37 = .ok (.aload_n 0, 1) := by decide +kernel
theorem dX0_owedBy_38 : decode cX0_owedBy 38 = .ok (.getfield 23, 3) := by decide +kernel
theorem dX0_owedBy_41 : decode cX0_owedBy 41 = .ok (.iload_n 3, 1) := by decide +kernel
theorem dX0_owedBy_42 : decode cX0_owedBy 42 = .ok (.iaload, 1) := by decide +kernel
theorem dX0_owedBy_43 : decode cX0_owedBy 43 = .ok (.iadd, 1) := by decide +kernel
theorem dX0_owedBy_44 : decode cX0_owedBy 44 = .ok (.istore_n 2, 1) := by decide +kernel
theorem dX0_owedBy_45 : decode cX0_owedBy 45 = .ok (.iinc 3 1, 3) := by decide +kernel
theorem dX0_owedBy_48 : decode cX0_owedBy 48 = .ok (.goto (-39), 3) := by decide +kernel
theorem dX0_owedBy_51 : decode cX0_owedBy 51 = .ok (.iload_n 2, 1) := by decide +kernel
theorem dX0_owedBy_52 : decode cX0_owedBy 52 = .ok (.ireturn, 1) := by decide +kernel
set_option maxRecDepth 20000 in
theorem ggX0_balance_X0_requirePerson : GoodIn wsX0_balance wsX0_requirePerson := goodIn_ca (goodIn_r _ [5, 6, 7, 8, 18, 19, 20, 21, 22, 23, 24, 25, 26, 27, 28, 29] (by decide +kernel) (by decide +kernel)) (goodIn_sub (fun _ h => List.mem_cons_of_mem _ (List.mem_append_right _ h)) (by decide +kernel))
set_option maxRecDepth 20000 in
theorem gX0_balance_X0_requirePerson : GoodIn wsX0_balance (wsV RX0 50 RX0 yX0_requirePerson wsX0_requirePerson) := goodIn_app (goodIn_of _ (by decide +kernel)) ggX0_balance_X0_requirePerson
set_option maxRecDepth 20000 in
theorem ggX0_balance_X0_weightBetween : GoodIn wsX0_balance wsX0_weightBetween := goodIn_r _ [12, 13, 14, 15, 16, 17, 18, 19, 20, 21, 22, 23, 24, 25, 26, 27, 28, 29] (by decide +kernel) (by decide +kernel)
set_option maxRecDepth 20000 in
theorem gX0_balance_X0_weightBetween : GoodIn wsX0_balance (wsV RX0 113 RX0 yX0_weightBetween wsX0_weightBetween) := goodIn_app (goodIn_of _ (by decide +kernel)) ggX0_balance_X0_weightBetween
theorem dX0_balance_0 : decode cX0_balance 0 = .ok (.aload_n 0, 1) := by decide +kernel
theorem dX0_balance_1 : decode cX0_balance 1 = .ok (.iload_n 1, 1) := by decide +kernel
theorem dX0_balance_2 : decode cX0_balance 2 = .ok (.invokevirtual 50, 3) := by decide +kernel
theorem dX0_balance_5 : decode cX0_balance 5 = .ok (.aload_n 0, 1) := by decide +kernel
theorem dX0_balance_6 : decode cX0_balance 6 = .ok (.iload_n 2, 1) := by decide +kernel
theorem dX0_balance_7 : decode cX0_balance 7 = .ok (.invokevirtual 50, 3) := by decide +kernel
theorem dX0_balance_10 : decode cX0_balance 10 = .ok (.aload_n 0, 1) := by decide +kernel
theorem dX0_balance_11 : decode cX0_balance 11 = .ok (.iload_n 1, 1) := by decide +kernel
theorem dX0_balance_12 : decode cX0_balance 12 = .ok (.iload_n 2, 1) := by decide +kernel
theorem dX0_balance_13 : decode cX0_balance 13 = .ok (.invokevirtual 113, 3) := by decide +kernel
theorem dX0_balance_16 : decode cX0_balance 16 = .ok (.aload_n 0, 1) := by decide +kernel
theorem dX0_balance_17 : decode cX0_balance 17 = .ok (.iload_n 2, 1) := by decide +kernel
theorem dX0_balance_18 : decode cX0_balance 18 = .ok (.iload_n 1, 1) := by decide +kernel
theorem dX0_balance_19 : decode cX0_balance 19 = .ok (.invokevirtual 113, 3) := by decide +kernel
theorem dX0_balance_22 : decode cX0_balance 22 = .ok (.isub, 1) := by decide +kernel
theorem dX0_balance_23 : decode cX0_balance 23 = .ok (.ireturn, 1) := by decide +kernel
set_option maxRecDepth 20000 in
theorem ggX0_sorest_X0_borneBy : GoodIn wsX0_sorest wsX0_borneBy := goodIn_ca (goodIn_r _ [6, 7, 8, 9, 10, 11, 12, 13, 5, 14, 15, 16, 1, 17, 18, 19, 20, 21, 22, 23, 24, 25, 26, 27, 28] (by decide +kernel) (by decide +kernel)) (goodIn_sub (fun _ h => List.mem_cons_of_mem _ (List.mem_append_right _ h)) (by decide +kernel))
set_option maxRecDepth 20000 in
theorem gX0_sorest_X0_borneBy : GoodIn wsX0_sorest (wsV RX0 116 RX0 yX0_borneBy wsX0_borneBy) := goodIn_app (goodIn_of _ (by decide +kernel)) ggX0_sorest_X0_borneBy
theorem dX0_sorest_0 : decode cX0_sorest 0 = .ok (.iconst (-1), 1) := by decide +kernel
theorem dX0_sorest_1 : decode cX0_sorest 1 = .ok (.istore_n 1, 1) := by decide +kernel
theorem dX0_sorest_2 : decode cX0_sorest 2 = .ok (.iconst (-1), 1) := by decide +kernel
theorem dX0_sorest_3 : decode cX0_sorest 3 = .ok (.istore_n 2, 1) := by decide +kernel
theorem dX0_sorest_4 : decode cX0_sorest 4 = .ok (.iconst 0, 1) := by decide +kernel
theorem dX0_sorest_5 : decode cX0_sorest 5 = .ok (.istore_n 3, 1) := by decide +kernel
theorem dX0_sorest_6 : decode cX0_sorest 6 = .ok (.iload_n 3, 1) := by decide +kernel
theorem dX0_sorest_7 : decode cX0_sorest 7 = .ok (.aload_n 0, 1) := by decide +kernel
theorem dX0_sorest_8 : decode cX0_sorest 8 = .ok (.getfield 39, 3) := by decide +kernel
theorem dX0_sorest_11 : decode cX0_sorest 11 = .ok (.if_icmp .ge 27, 3) := by decide +kernel
theorem dX0_sorest_14 : decode cX0_sorest 14 = .ok (.aload_n 0, 1) := by decide +kernel
theorem dX0_sorest_15 : decode cX0_sorest 15 = .ok (.iload_n 3, 1) := by decide +kernel
theorem dX0_sorest_16 : decode cX0_sorest 16 = .ok (.invokevirtual 116, 3) := by decide +kernel
theorem dX0_sorest_19 : decode cX0_sorest 19 = .ok (.istore 4, 2) := by decide +kernel
theorem dX0_sorest_21 : decode cX0_sorest 21 = .ok (.iload 4, 2) := by decide +kernel
theorem dX0_sorest_23 : decode cX0_sorest 23 = .ok (.iload_n 2, 1) := by decide +kernel
theorem dX0_sorest_24 : decode cX0_sorest 24 = .ok (.if_icmp .le 8, 3) := by decide +kernel
theorem dX0_sorest_27 : decode cX0_sorest 27 = .ok (.iload_n 3, 1) := by decide +kernel
theorem dX0_sorest_28 : decode cX0_sorest 28 = .ok (.istore_n 1, 1) := by decide +kernel
theorem dX0_sorest_29 : decode cX0_sorest 29 = .ok (.iload 4, 2) := by decide +kernel
theorem dX0_sorest_31 : decode cX0_sorest 31 = .ok (.istore_n 2, 1) := by decide +kernel
theorem dX0_sorest_32 : decode cX0_sorest 32 = .ok (.iinc 3 1, 3) := by decide +kernel
theorem dX0_sorest_35 : decode cX0_sorest 35 = .ok (.goto (-29), 3) := by decide +kernel
theorem dX0_sorest_38 : decode cX0_sorest 38 = .ok (.iload_n 1, 1) := by decide +kernel
theorem dX0_sorest_39 : decode cX0_sorest 39 = .ok (.ireturn, 1) := by decide +kernel
set_option maxRecDepth 20000 in
theorem ggX0_offenderOf_X0_requireSlight : GoodIn wsX0_offenderOf wsX0_requireSlight := goodIn_ca (goodIn_r _ [6, 7, 8, 9, 10, 11, 12, 13, 14, 15, 16, 17, 18, 19, 20, 21] (by decide +kernel) (by decide +kernel)) (goodIn_sub (fun _ h => List.mem_cons_of_mem _ (List.mem_append_right _ h)) (by decide +kernel))
set_option maxRecDepth 20000 in
theorem gX0_offenderOf_X0_requireSlight : GoodIn wsX0_offenderOf (wsV RX0 65 RX0 yX0_requireSlight wsX0_requireSlight) := goodIn_app (goodIn_of _ (by decide +kernel)) ggX0_offenderOf_X0_requireSlight
theorem dX0_offenderOf_0 : decode cX0_offenderOf 0 = .ok (.aload_n 0, 1) := by decide +kernel
theorem dX0_offenderOf_1 : decode cX0_offenderOf 1 = .ok (.iload_n 1, 1) := by decide +kernel
theorem dX0_offenderOf_2 : decode cX0_offenderOf 2 = .ok (.invokevirtual 65, 3) := by decide +kernel
theorem dX0_offenderOf_5 : decode cX0_offenderOf 5 = .ok (.aload_n 0, 1) := by decide +kernel
theorem dX0_offenderOf_6 : decode cX0_offenderOf 6 = .ok (.getfield 17, 3) := by decide +kernel
theorem dX0_offenderOf_9 : decode cX0_offenderOf 9 = .ok (.iload_n 1, 1) := by decide +kernel
theorem dX0_offenderOf_10 : decode cX0_offenderOf 10 = .ok (.iaload, 1) := by decide +kernel
theorem dX0_offenderOf_11 : decode cX0_offenderOf 11 = .ok (.ireturn, 1) := by decide +kernel
set_option maxRecDepth 20000 in
theorem ggX0_offendedOf_X0_requireSlight : GoodIn wsX0_offendedOf wsX0_requireSlight := goodIn_ca (goodIn_r _ [6, 7, 8, 9, 10, 11, 12, 13, 14, 15, 16, 17, 18, 19, 20, 21] (by decide +kernel) (by decide +kernel)) (goodIn_sub (fun _ h => List.mem_cons_of_mem _ (List.mem_append_right _ h)) (by decide +kernel))
set_option maxRecDepth 20000 in
theorem gX0_offendedOf_X0_requireSlight : GoodIn wsX0_offendedOf (wsV RX0 65 RX0 yX0_requireSlight wsX0_requireSlight) := goodIn_app (goodIn_of _ (by decide +kernel)) ggX0_offendedOf_X0_requireSlight
theorem dX0_offendedOf_0 : decode cX0_offendedOf 0 = .ok (.aload_n 0, 1) := by decide +kernel
theorem dX0_offendedOf_1 : decode cX0_offendedOf 1 = .ok (.iload_n 1, 1) := by decide +kernel
theorem dX0_offendedOf_2 : decode cX0_offendedOf 2 = .ok (.invokevirtual 65, 3) := by decide +kernel
theorem dX0_offendedOf_5 : decode cX0_offendedOf 5 = .ok (.aload_n 0, 1) := by decide +kernel
theorem dX0_offendedOf_6 : decode cX0_offendedOf 6 = .ok (.getfield 20, 3) := by decide +kernel
theorem dX0_offendedOf_9 : decode cX0_offendedOf 9 = .ok (.iload_n 1, 1) := by decide +kernel
theorem dX0_offendedOf_10 : decode cX0_offendedOf 10 = .ok (.iaload, 1) := by decide +kernel
theorem dX0_offendedOf_11 : decode cX0_offendedOf 11 = .ok (.ireturn, 1) := by decide +kernel
set_option maxRecDepth 20000 in
theorem ggX0_weightOf_X0_requireSlight : GoodIn wsX0_weightOf wsX0_requireSlight := goodIn_ca (goodIn_r _ [6, 7, 8, 9, 10, 11, 12, 13, 14, 15, 16, 17, 18, 19, 20, 21] (by decide +kernel) (by decide +kernel)) (goodIn_sub (fun _ h => List.mem_cons_of_mem _ (List.mem_append_right _ h)) (by decide +kernel))
set_option maxRecDepth 20000 in
theorem gX0_weightOf_X0_requireSlight : GoodIn wsX0_weightOf (wsV RX0 65 RX0 yX0_requireSlight wsX0_requireSlight) := goodIn_app (goodIn_of _ (by decide +kernel)) ggX0_weightOf_X0_requireSlight
theorem dX0_weightOf_0 : decode cX0_weightOf 0 = .ok (.aload_n 0, 1) := by decide +kernel
theorem dX0_weightOf_1 : decode cX0_weightOf 1 = .ok (.iload_n 1, 1) := by decide +kernel
theorem dX0_weightOf_2 : decode cX0_weightOf 2 = .ok (.invokevirtual 65, 3) := by decide +kernel
theorem dX0_weightOf_5 : decode cX0_weightOf 5 = .ok (.aload_n 0, 1) := by decide +kernel
theorem dX0_weightOf_6 : decode cX0_weightOf 6 = .ok (.getfield 23, 3) := by decide +kernel
theorem dX0_weightOf_9 : decode cX0_weightOf 9 = .ok (.iload_n 1, 1) := by decide +kernel
theorem dX0_weightOf_10 : decode cX0_weightOf 10 = .ok (.iaload, 1) := by decide +kernel
theorem dX0_weightOf_11 : decode cX0_weightOf 11 = .ok (.ireturn, 1) := by decide +kernel
set_option maxRecDepth 20000 in
theorem ggX0_stateOf_X0_requireSlight : GoodIn wsX0_stateOf wsX0_requireSlight := goodIn_ca (goodIn_r _ [6, 7, 8, 9, 10, 11, 12, 13, 14, 15, 16, 17, 18, 19, 20, 21] (by decide +kernel) (by decide +kernel)) (goodIn_sub (fun _ h => List.mem_cons_of_mem _ (List.mem_append_right _ h)) (by decide +kernel))
set_option maxRecDepth 20000 in
theorem gX0_stateOf_X0_requireSlight : GoodIn wsX0_stateOf (wsV RX0 65 RX0 yX0_requireSlight wsX0_requireSlight) := goodIn_app (goodIn_of _ (by decide +kernel)) ggX0_stateOf_X0_requireSlight
theorem dX0_stateOf_0 : decode cX0_stateOf 0 = .ok (.aload_n 0, 1) := by decide +kernel
theorem dX0_stateOf_1 : decode cX0_stateOf 1 = .ok (.iload_n 1, 1) := by decide +kernel
theorem dX0_stateOf_2 : decode cX0_stateOf 2 = .ok (.invokevirtual 65, 3) := by decide +kernel
theorem dX0_stateOf_5 : decode cX0_stateOf 5 = .ok (.aload_n 0, 1) := by decide +kernel
theorem dX0_stateOf_6 : decode cX0_stateOf 6 = .ok (.getfield 26, 3) := by decide +kernel
theorem dX0_stateOf_9 : decode cX0_stateOf 9 = .ok (.iload_n 1, 1) := by decide +kernel
theorem dX0_stateOf_10 : decode cX0_stateOf 10 = .ok (.iaload, 1) := by decide +kernel
theorem dX0_stateOf_11 : decode cX0_stateOf 11 = .ok (.ireturn, 1) := by decide +kernel
set_option maxRecDepth 20000 in
theorem ggX0_borneFor_X0_requireSlight : GoodIn wsX0_borneFor wsX0_requireSlight := goodIn_ca (goodIn_r _ [6, 7, 8, 9, 10, 11, 12, 13, 14, 15, 16, 17, 18, 19, 20, 21] (by decide +kernel) (by decide +kernel)) (goodIn_sub (fun _ h => List.mem_cons_of_mem _ (List.mem_append_right _ h)) (by decide +kernel))
set_option maxRecDepth 20000 in
theorem gX0_borneFor_X0_requireSlight : GoodIn wsX0_borneFor (wsV RX0 65 RX0 yX0_requireSlight wsX0_requireSlight) := goodIn_app (goodIn_of _ (by decide +kernel)) ggX0_borneFor_X0_requireSlight
theorem dX0_borneFor_0 : decode cX0_borneFor 0 = .ok (.aload_n 0, 1) := by decide +kernel
theorem dX0_borneFor_1 : decode cX0_borneFor 1 = .ok (.iload_n 1, 1) := by decide +kernel
theorem dX0_borneFor_2 : decode cX0_borneFor 2 = .ok (.invokevirtual 65, 3) := by decide +kernel
theorem dX0_borneFor_5 : decode cX0_borneFor 5 = .ok (.aload_n 0, 1) := by decide +kernel
theorem dX0_borneFor_6 : decode cX0_borneFor 6 = .ok (.getfield 29, 3) := by decide +kernel
theorem dX0_borneFor_9 : decode cX0_borneFor 9 = .ok (.iload_n 1, 1) := by decide +kernel
theorem dX0_borneFor_10 : decode cX0_borneFor 10 = .ok (.iaload, 1) := by decide +kernel
theorem dX0_borneFor_11 : decode cX0_borneFor 11 = .ok (.ireturn, 1) := by decide +kernel
set_option maxRecDepth 20000 in
theorem ggX0_quietFor_X0_requireSlight : GoodIn wsX0_quietFor wsX0_requireSlight := goodIn_ca (goodIn_r _ [6, 7, 8, 9, 10, 11, 12, 13, 14, 15, 16, 17, 18, 19, 20, 21] (by decide +kernel) (by decide +kernel)) (goodIn_sub (fun _ h => List.mem_cons_of_mem _ (List.mem_append_right _ h)) (by decide +kernel))
set_option maxRecDepth 20000 in
theorem gX0_quietFor_X0_requireSlight : GoodIn wsX0_quietFor (wsV RX0 65 RX0 yX0_requireSlight wsX0_requireSlight) := goodIn_app (goodIn_of _ (by decide +kernel)) ggX0_quietFor_X0_requireSlight
theorem dX0_quietFor_0 : decode cX0_quietFor 0 = .ok (.aload_n 0, 1) := by decide +kernel
theorem dX0_quietFor_1 : decode cX0_quietFor 1 = .ok (.iload_n 1, 1) := by decide +kernel
theorem dX0_quietFor_2 : decode cX0_quietFor 2 = .ok (.invokevirtual 65, 3) := by decide +kernel
theorem dX0_quietFor_5 : decode cX0_quietFor 5 = .ok (.aload_n 0, 1) := by decide +kernel
theorem dX0_quietFor_6 : decode cX0_quietFor 6 = .ok (.getfield 32, 3) := by decide +kernel
theorem dX0_quietFor_9 : decode cX0_quietFor 9 = .ok (.iload_n 1, 1) := by decide +kernel
theorem dX0_quietFor_10 : decode cX0_quietFor 10 = .ok (.iaload, 1) := by decide +kernel
theorem dX0_quietFor_11 : decode cX0_quietFor 11 = .ok (.ireturn, 1) := by decide +kernel
set_option maxRecDepth 20000 in
theorem ggX0_witnessesFor_X0_requireSlight : GoodIn wsX0_witnessesFor wsX0_requireSlight := goodIn_ca (goodIn_r _ [9, 10, 11, 12, 13, 14, 15, 16, 17, 18, 19, 20, 21, 22, 23, 24] (by decide +kernel) (by decide +kernel)) (goodIn_sub (fun _ h => List.mem_cons_of_mem _ (List.mem_append_right _ h)) (by decide +kernel))
set_option maxRecDepth 20000 in
theorem gX0_witnessesFor_X0_requireSlight : GoodIn wsX0_witnessesFor (wsV RX0 65 RX0 yX0_requireSlight wsX0_requireSlight) := goodIn_app (goodIn_of _ (by decide +kernel)) ggX0_witnessesFor_X0_requireSlight
theorem dX0_witnessesFor_0 : decode cX0_witnessesFor 0 = .ok (.aload_n 0, 1) := by decide +kernel
theorem dX0_witnessesFor_1 : decode cX0_witnessesFor 1 = .ok (.iload_n 1, 1) := by decide +kernel
theorem dX0_witnessesFor_2 : decode cX0_witnessesFor 2 = .ok (.invokevirtual 65, 3) := by decide +kernel
theorem dX0_witnessesFor_5 : decode cX0_witnessesFor 5 = .ok (.iconst 0, 1) := by decide +kernel
theorem dX0_witnessesFor_6 : decode cX0_witnessesFor 6 = .ok (.istore_n 2, 1) := by decide +kernel
theorem dX0_witnessesFor_7 : decode cX0_witnessesFor 7 = .ok (.iconst 0, 1) := by decide +kernel
theorem dX0_witnessesFor_8 : decode cX0_witnessesFor 8 = .ok (.istore_n 3, 1) := by decide +kernel
theorem dX0_witnessesFor_9 : decode cX0_witnessesFor 9 = .ok (.iload_n 3, 1) := by decide +kernel
theorem dX0_witnessesFor_10 : decode cX0_witnessesFor 10 = .ok (.aload_n 0, 1) := by decide +kernel
theorem dX0_witnessesFor_11 : decode cX0_witnessesFor 11 = .ok (.getfield 39, 3) := by decide +kernel
theorem dX0_witnessesFor_14 : decode cX0_witnessesFor 14 = .ok (.if_icmp .ge 41, 3) := by decide +kernel
theorem dX0_witnessesFor_17 : decode cX0_witnessesFor 17 = .ok (.aload_n 0, 1) := by decide +kernel
theorem dX0_witnessesFor_18 : decode cX0_witnessesFor 18 = .ok (.getfield 13, 3) := by decide +kernel
theorem dX0_witnessesFor_21 : decode cX0_witnessesFor 21 = .ok (.iload_n 3, 1) := by decide +kernel
theorem dX0_witnessesFor_22 : decode cX0_witnessesFor 22 = .ok (.baload, 1) := by decide +kernel
theorem dX0_witnessesFor_23 : decode cX0_witnessesFor 23 = .ok (.ifCond .eq 26, 3) := by decide +kernel
theorem dX0_witnessesFor_26 : decode cX0_witnessesFor 26 = .ok (.iload_n 3, 1) := by decide +kernel
theorem dX0_witnessesFor_27 : decode cX0_witnessesFor 27 = .ok (.aload_n 0, 1) := by decide +kernel
theorem dX0_witnessesFor_28 : decode cX0_witnessesFor 28 = .ok (.getfield 17, 3) := by decide +kernel
theorem dX0_witnessesFor_31 : decode cX0_witnessesFor 31 = .ok (.iload_n 1, 1) := by decide +kernel
theorem dX0_witnessesFor_32 : decode cX0_witnessesFor 32 = .ok (.iaload, 1) := by decide +kernel
theorem dX0_witnessesFor_33 : decode cX0_witnessesFor 33 = .ok (.if_icmp .eq 16, 3) := by decide +kernel
theorem dX0_witnessesFor_36 : decode cX0_witnessesFor 36 = .ok (.iload_n 3, 1) := by decide +kernel
theorem dX0_witnessesFor_37 : decode cX0_witnessesFor 37 = .ok (.aload_n 0, 1) := by decide +kernel
theorem dX0_witnessesFor_38 : decode cX0_witnessesFor 38 = .ok (.getfield 20, 3) := by decide +kernel
theorem dX0_witnessesFor_41 : decode cX0_witnessesFor 41 = .ok (.iload_n 1, 1) := by decide +kernel
theorem dX0_witnessesFor_42 : decode cX0_witnessesFor 42 = .ok (.iaload, 1) := by decide +kernel
theorem dX0_witnessesFor_43 : decode cX0_witnessesFor 43 = .ok (.if_icmp .eq 6, 3) := by decide +kernel
theorem dX0_witnessesFor_46 : decode cX0_witnessesFor 46 = .ok (.iinc 2 1, 3) := by decide +kernel
theorem dX0_witnessesFor_49 : decode cX0_witnessesFor 49 = .ok (.iinc 3 1, 3) := by decide +kernel
theorem dX0_witnessesFor_52 : decode cX0_witnessesFor 52 = .ok (.goto (-43), 3) := by decide +kernel
theorem dX0_witnessesFor_55 : decode cX0_witnessesFor 55 = .ok (.iload_n 2, 1) := by decide +kernel
theorem dX0_witnessesFor_56 : decode cX0_witnessesFor 56 = .ok (.ireturn, 1) := by decide +kernel
theorem dX0_inState_0 : decode cX0_inState 0 = .ok (.iload_n 1, 1) := by decide +kernel
theorem dX0_inState_1 : decode cX0_inState 1 = .ok (.ifCond .lt 8, 3) := by decide +kernel
theorem dX0_inState_4 : decode cX0_inState 4 = .ok (.iload_n 1, 1) := by decide +kernel
theorem dX0_inState_5 : decode cX0_inState 5 = .ok (.iconst 3, 1) := by decide +kernel
theorem dX0_inState_6 : decode cX0_inState 6 = .ok (.if_icmp .le 13, 3) := by decide +kernel
theorem dX0_inState_9 : decode cX0_inState 9 = .ok (.new 53, 3) := by decide +kernel
theorem dX0_inState_12 : decode cX0_inState 12 = .ok (.dup, 1) := by decide +kernel
theorem dX0_inState_13 : decode cX0_inState 13 = .ok (.ldc 119, 2) := by decide +kernel
theorem dX0_inState_15 : decode cX0_inState 15 = .ok (.invokespecial 57, 3) := by decide +kernel
theorem dX0_inState_18 : decode cX0_inState 18 = .ok (.athrow, 1) := by decide +kernel
theorem dX0_inState_19 : decode cX0_inState 19 = .ok (.iconst 0, 1) := by decide +kernel
theorem dX0_inState_20 : decode cX0_inState 20 = .ok (.istore_n 2, 1) := by decide +kernel
theorem dX0_inState_21 : decode cX0_inState 21 = .ok (.iconst 0, 1) := by decide +kernel
theorem dX0_inState_22 : decode cX0_inState 22 = .ok (.istore_n 3, 1) := by decide +kernel
theorem dX0_inState_23 : decode cX0_inState 23 = .ok (.iload_n 3, 1) := by decide +kernel
theorem dX0_inState_24 : decode cX0_inState 24 = .ok (.aload_n 0, 1) := by decide +kernel
theorem dX0_inState_25 : decode cX0_inState 25 = .ok (.getfield 60, 3) := by decide +kernel
theorem dX0_inState_28 : decode cX0_inState 28 = .ok (.if_icmp .ge 22, 3) := by decide +kernel
theorem dX0_inState_31 : decode cX0_inState 31 = .ok (.aload_n 0, 1) := by decide +kernel
theorem dX0_inState_32 : decode cX0_inState 32 = .ok (.getfield 26, 3) := by decide +kernel
theorem dX0_inState_35 : decode cX0_inState 35 = .ok (.iload_n 3, 1) := by decide +kernel
theorem dX0_inState_36 : decode cX0_inState 36 = .ok (.iaload, 1) := by decide +kernel
theorem dX0_inState_37 : decode cX0_inState 37 = .ok (.iload_n 1, 1) := by decide +kernel
theorem dX0_inState_38 : decode cX0_inState 38 = .ok (.if_icmp .ne 6, 3) := by decide +kernel
theorem dX0_inState_41 : decode cX0_inState 41 = .ok (.iinc 2 1, 3) := by decide +kernel
theorem dX0_inState_44 : decode cX0_inState 44 = .ok (.iinc 3 1, 3) := by decide +kernel
theorem dX0_inState_47 : decode cX0_inState 47 = .ok (.goto (-24), 3) := by decide +kernel
theorem dX0_inState_50 : decode cX0_inState 50 = .ok (.iload_n 2, 1) := by decide +kernel
theorem dX0_inState_51 : decode cX0_inState 51 = .ok (.ireturn, 1) := by decide +kernel
theorem dX0_heaviest_0 : decode cX0_heaviest 0 = .ok (.iconst (-1), 1) := by decide +kernel
theorem dX0_heaviest_1 : decode cX0_heaviest 1 = .ok (.istore_n 1, 1) := by decide +kernel
theorem dX0_heaviest_2 : decode cX0_heaviest 2 = .ok (.iconst (-1), 1) := by decide +kernel
theorem dX0_heaviest_3 : decode cX0_heaviest 3 = .ok (.istore_n 2, 1) := by decide +kernel
theorem dX0_heaviest_4 : decode cX0_heaviest 4 = .ok (.iconst 0, 1) := by decide +kernel
theorem dX0_heaviest_5 : decode cX0_heaviest 5 = .ok (.istore_n 3, 1) := by decide +kernel
theorem dX0_heaviest_6 : decode cX0_heaviest 6 = .ok (.iload_n 3, 1) := by decide +kernel
theorem dX0_heaviest_7 : decode cX0_heaviest 7 = .ok (.aload_n 0, 1) := by decide +kernel
theorem dX0_heaviest_8 : decode cX0_heaviest 8 = .ok (.getfield 60, 3) := by decide +kernel
theorem dX0_heaviest_11 : decode cX0_heaviest 11 = .ok (.if_icmp .ge 37, 3) := by decide +kernel
theorem dX0_heaviest_14 : decode cX0_heaviest 14 = .ok (.aload_n 0, 1) := by decide +kernel
theorem dX0_heaviest_15 : decode cX0_heaviest 15 = .ok (.getfield 26, 3) := by decide +kernel
theorem dX0_heaviest_18 : decode cX0_heaviest 18 = .ok (.iload_n 3, 1) := by decide +kernel
theorem dX0_heaviest_19 : decode cX0_heaviest 19 = .ok (.iaload, 1) := by decide +kernel
theorem dX0_heaviest_20 : decode cX0_heaviest 20 = .ok (.ifCond .ne 22, 3) := by decide +kernel
theorem dX0_heaviest_23 : decode cX0_heaviest 23 = .ok (.aload_n 0, 1) := by decide +kernel
theorem dX0_heaviest_24 : decode cX0_heaviest 24 = .ok (.getfield 23, 3) := by decide +kernel
theorem dX0_heaviest_27 : decode cX0_heaviest 27 = .ok (.iload_n 3, 1) := by decide +kernel
theorem dX0_heaviest_28 : decode cX0_heaviest 28 = .ok (.iaload, 1) := by decide +kernel
theorem dX0_heaviest_29 : decode cX0_heaviest 29 = .ok (.iload_n 2, 1) := by decide +kernel
theorem dX0_heaviest_30 : decode cX0_heaviest 30 = .ok (.if_icmp .le 12, 3) := by decide +kernel
theorem dX0_heaviest_33 : decode cX0_heaviest 33 = .ok (.iload_n 3, 1) := by decide +kernel
theorem dX0_heaviest_34 : decode cX0_heaviest 34 = .ok (.istore_n 1, 1) := by decide +kernel
theorem dX0_heaviest_35 : decode cX0_heaviest 35 = .ok (.aload_n 0, 1) := by decide +kernel
theorem dX0_heaviest_36 : decode cX0_heaviest 36 = .ok (.getfield 23, 3) := by decide +kernel
theorem dX0_heaviest_39 : decode cX0_heaviest 39 = .ok (.iload_n 3, 1) := by decide +kernel
theorem dX0_heaviest_40 : decode cX0_heaviest 40 = .ok (.iaload, 1) := by decide +kernel
theorem dX0_heaviest_41 : decode cX0_heaviest 41 = .ok (.istore_n 2, 1) := by decide +kernel
theorem dX0_heaviest_42 : decode cX0_heaviest 42 = .ok (.iinc 3 1, 3) := by decide +kernel
theorem dX0_heaviest_45 : decode cX0_heaviest 45 = .ok (.goto (-39), 3) := by decide +kernel
theorem dX0_heaviest_48 : decode cX0_heaviest 48 = .ok (.iload_n 1, 1) := by decide +kernel
theorem dX0_heaviest_49 : decode cX0_heaviest 49 = .ok (.ireturn, 1) := by decide +kernel
set_option maxRecDepth 20000 in
theorem ggX0_pairsToSetOff_X0_areAgainstEachOther : GoodIn wsX0_pairsToSetOff wsX0_areAgainstEachOther := goodIn_ca (goodIn_r _ [7, 8, 9, 10, 6, 11, 12, 13, 14, 15, 16, 17, 18, 1, 19, 20, 21, 22, 23, 24, 25, 26, 27, 28, 29, 30, 31, 32, 33, 34, 35] (by decide +kernel) (by decide +kernel)) (goodIn_sub (fun _ h => List.mem_cons_of_mem _ (List.mem_append_right _ h)) (by decide +kernel))
set_option maxRecDepth 20000 in
theorem gX0_pairsToSetOff_X0_areAgainstEachOther : GoodIn wsX0_pairsToSetOff (wsV RX0 92 RX0 yX0_areAgainstEachOther wsX0_areAgainstEachOther) := goodIn_app (goodIn_of _ (by decide +kernel)) ggX0_pairsToSetOff_X0_areAgainstEachOther
theorem dX0_pairsToSetOff_0 : decode cX0_pairsToSetOff 0 = .ok (.iconst 0, 1) := by decide +kernel
theorem dX0_pairsToSetOff_1 : decode cX0_pairsToSetOff 1 = .ok (.istore_n 1, 1) := by decide +kernel
theorem dX0_pairsToSetOff_2 : decode cX0_pairsToSetOff 2 = .ok (.iconst 0, 1) := by decide +kernel
theorem dX0_pairsToSetOff_3 : decode cX0_pairsToSetOff 3 = .ok (.istore_n 2, 1) := by decide +kernel
theorem dX0_pairsToSetOff_4 : decode cX0_pairsToSetOff 4 = .ok (.iload_n 2, 1) := by decide +kernel
theorem dX0_pairsToSetOff_5 : decode cX0_pairsToSetOff 5 = .ok (.aload_n 0, 1) := by decide +kernel
theorem dX0_pairsToSetOff_6 : decode cX0_pairsToSetOff 6 = .ok (.getfield 60, 3) := by decide +kernel
theorem dX0_pairsToSetOff_9 : decode cX0_pairsToSetOff 9 = .ok (.if_icmp .ge 57, 3) := by decide +kernel
theorem dX0_pairsToSetOff_12 : decode cX0_pairsToSetOff 12 = .ok (.iload_n 2, 1) := by decide +kernel
theorem dX0_pairsToSetOff_13 : decode cX0_pairsToSetOff 13 = .ok (.iconst 1, 1) := by decide +kernel
theorem dX0_pairsToSetOff_14 : decode cX0_pairsToSetOff 14 = .ok (.iadd, 1) := by decide +kernel
theorem dX0_pairsToSetOff_15 : decode cX0_pairsToSetOff 15 = .ok (.istore_n 3, 1) := by decide +kernel
theorem dX0_pairsToSetOff_16 : decode cX0_pairsToSetOff 16 = .ok (.iload_n 3, 1) := by decide +kernel
theorem dX0_pairsToSetOff_17 : decode cX0_pairsToSetOff 17 = .ok (.aload_n 0, 1) := by decide +kernel
theorem dX0_pairsToSetOff_18 : decode cX0_pairsToSetOff 18 = .ok (.getfield 60, 3) := by decide +kernel
theorem dX0_pairsToSetOff_21 : decode cX0_pairsToSetOff 21 = .ok (.if_icmp .ge 39, 3) := by decide +kernel
theorem dX0_pairsToSetOff_24 : decode cX0_pairsToSetOff 24 = .ok (.aload_n 0, 1) := by decide +kernel
theorem dX0_pairsToSetOff_25 : decode cX0_pairsToSetOff 25 = .ok (.getfield 26, 3) := by decide +kernel
theorem dX0_pairsToSetOff_28 : decode cX0_pairsToSetOff 28 = .ok (.iload_n 2, 1) := by decide +kernel
theorem dX0_pairsToSetOff_29 : decode cX0_pairsToSetOff 29 = .ok (.iaload, 1) := by decide +kernel
theorem dX0_pairsToSetOff_30 : decode cX0_pairsToSetOff 30 = .ok (.ifCond .ne 24, 3) := by decide +kernel
theorem dX0_pairsToSetOff_33 : decode cX0_pairsToSetOff 33 = .ok (.aload_n 0, 1) := by decide +kernel
theorem dX0_pairsToSetOff_34 : decode cX0_pairsToSetOff 34 = .ok (.getfield 26, 3) := by decide +kernel
theorem dX0_pairsToSetOff_37 : decode cX0_pairsToSetOff 37 = .ok (.iload_n 3, 1) := by decide +kernel
theorem dX0_pairsToSetOff_38 : decode cX0_pairsToSetOff 38 = .ok (.iaload, 1) := by decide +kernel
theorem dX0_pairsToSetOff_39 : decode cX0_pairsToSetOff 39 = .ok (.ifCond .ne 15, 3) := by decide +kernel
theorem dX0_pairsToSetOff_42 : decode cX0_pairsToSetOff 42 = .ok (.aload_n 0, 1) := by decide +kernel
theorem dX0_pairsToSetOff_43 : decode cX0_pairsToSetOff 43 = .ok (.iload_n 2, 1) := by decide +kernel
theorem dX0_pairsToSetOff_44 : decode cX0_pairsToSetOff 44 = .ok (.iload_n 3, 1) := by decide +kernel
theorem dX0_pairsToSetOff_45 : decode cX0_pairsToSetOff 45 = .ok (.invokevirtual 92, 3) := by decide +kernel
theorem dX0_pairsToSetOff_48 : decode cX0_pairsToSetOff 48 = .ok (.ifCond .eq 6, 3) := by decide +kernel
theorem dX0_pairsToSetOff_51 : decode cX0_pairsToSetOff 51 = .ok (.iinc 1 1, 3) := by decide +kernel
theorem dX0_pairsToSetOff_54 : decode cX0_pairsToSetOff 54 = .ok (.iinc 3 1, 3) := by decide +kernel
theorem dX0_pairsToSetOff_57 : decode cX0_pairsToSetOff 57 = .ok (.goto (-41), 3) := by decide +kernel
theorem dX0_pairsToSetOff_60 : decode cX0_pairsToSetOff 60 = .ok (.iinc 2 1, 3) := by decide +kernel
theorem dX0_pairsToSetOff_63 : decode cX0_pairsToSetOff 63 = .ok (.goto (-59), 3) := by decide +kernel
theorem dX0_pairsToSetOff_66 : decode cX0_pairsToSetOff 66 = .ok (.iload_n 1, 1) := by decide +kernel
theorem dX0_pairsToSetOff_67 : decode cX0_pairsToSetOff 67 = .ok (.ireturn, 1) := by decide +kernel
set_option maxRecDepth 20000 in
theorem ggX0_wordsWanted_X0_requireSlight : GoodIn wsX0_wordsWanted wsX0_requireSlight := goodIn_ca (goodIn_r _ [11, 12, 13, 14, 48, 49, 50, 51, 52, 53, 54, 55, 56, 57, 58, 59] (by decide +kernel) (by decide +kernel)) (goodIn_sub (fun _ h => List.mem_cons_of_mem _ (List.mem_append_right _ h)) (by decide +kernel))
set_option maxRecDepth 20000 in
theorem gX0_wordsWanted_X0_requireSlight : GoodIn wsX0_wordsWanted (wsV RX0 65 RX0 yX0_requireSlight wsX0_requireSlight) := goodIn_app (goodIn_of _ (by decide +kernel)) ggX0_wordsWanted_X0_requireSlight
set_option maxRecDepth 20000 in
theorem ggX0_wordsWanted_X0_leastWorthHeard : GoodIn wsX0_wordsWanted wsX0_leastWorthHeard := goodIn_ca (goodIn_r _ [18, 3, 4, 5, 6, 19, 20, 21, 10, 22, 23, 7, 8, 9, 11, 12, 13, 14, 24, 25, 26, 27, 28, 29, 30, 31, 32, 33, 34, 35, 36, 37, 2, 48, 49, 50, 51, 52, 53, 54, 55, 56, 57, 58, 59] (by decide +kernel) (by decide +kernel)) (goodIn_sub (fun _ h => List.mem_cons_of_mem _ (List.mem_append_right _ h)) (by decide +kernel))
set_option maxRecDepth 20000 in
theorem gX0_wordsWanted_X0_leastWorthHeard : GoodIn wsX0_wordsWanted (wsV RX0 81 RX0 yX0_leastWorthHeard wsX0_leastWorthHeard) := goodIn_app (goodIn_of _ (by decide +kernel)) ggX0_wordsWanted_X0_leastWorthHeard
set_option maxRecDepth 20000 in
theorem ggX0_wordsWanted_X0_worthOf : GoodIn wsX0_wordsWanted wsX0_worthOf := goodIn_ca (goodIn_r _ [41, 42, 43, 44, 10, 45, 33, 46, 47, 23, 7, 8, 9, 11, 12, 13, 14, 48, 49, 50, 51, 52, 53, 54, 55, 56, 57, 58, 59] (by decide +kernel) (by decide +kernel)) (goodIn_sub (fun _ h => List.mem_cons_of_mem _ (List.mem_append_right _ h)) (by decide +kernel))
set_option maxRecDepth 20000 in
theorem gX0_wordsWanted_X0_worthOf : GoodIn wsX0_wordsWanted (wsV RX0 77 RX0 yX0_worthOf wsX0_worthOf) := goodIn_app (goodIn_of _ (by decide +kernel)) ggX0_wordsWanted_X0_worthOf
theorem dX0_wordsWanted_0 : decode cX0_wordsWanted 0 = .ok (.aload_n 0, 1) := by decide +kernel
theorem dX0_wordsWanted_1 : decode cX0_wordsWanted 1 = .ok (.iload_n 1, 1) := by decide +kernel
theorem dX0_wordsWanted_2 : decode cX0_wordsWanted 2 = .ok (.invokevirtual 65, 3) := by decide +kernel
theorem dX0_wordsWanted_5 : decode cX0_wordsWanted 5 = .ok (.aload_n 0, 1) := by decide +kernel
theorem dX0_wordsWanted_6 : decode cX0_wordsWanted 6 = .ok (.getfield 26, 3) := by decide +kernel
theorem dX0_wordsWanted_9 : decode cX0_wordsWanted 9 = .ok (.iload_n 1, 1) := by decide +kernel
theorem dX0_wordsWanted_10 : decode cX0_wordsWanted 10 = .ok (.iaload, 1) := by decide +kernel
theorem dX0_wordsWanted_11 : decode cX0_wordsWanted 11 = .ok (.ifCond .eq 5, 3) := by decide +kernel
theorem dX0_wordsWanted_14 : decode cX0_wordsWanted 14 = .ok (.iconst (-1), 1) := by decide +kernel
theorem dX0_wordsWanted_15 : decode cX0_wordsWanted 15 = .ok (.ireturn, 1) := by decide +kernel
theorem dX0_wordsWanted_16 : decode cX0_wordsWanted 16 = .ok (.aload_n 0, 1) := by decide +kernel
theorem dX0_wordsWanted_17 : decode cX0_wordsWanted 17 = .ok (.getfield 23, 3) := by decide +kernel
theorem dX0_wordsWanted_20 : decode cX0_wordsWanted 20 = .ok (.iload_n 1, 1) := by decide +kernel
theorem dX0_wordsWanted_21 : decode cX0_wordsWanted 21 = .ok (.iaload, 1) := by decide +kernel
theorem dX0_wordsWanted_22 : decode cX0_wordsWanted 22 = .ok (.aload_n 0, 1) := by decide +kernel
theorem dX0_wordsWanted_23 : decode cX0_wordsWanted 23 = .ok (.iload_n 1, 1) := by decide +kernel
theorem dX0_wordsWanted_24 : decode cX0_wordsWanted 24 = .ok (.invokevirtual 81, 3) := by decide +kernel
theorem dX0_wordsWanted_27 : decode cX0_wordsWanted 27 = .ok (.invokestatic 121, 3) := by decide +kernel
theorem dX0_wordsWanted_30 : decode cX0_wordsWanted 30 = .ok (.istore_n 2, 1) := by decide +kernel
theorem dX0_wordsWanted_31 : decode cX0_wordsWanted 31 = .ok (.iconst 1, 1) := by decide +kernel
theorem dX0_wordsWanted_32 : decode cX0_wordsWanted 32 = .ok (.iload_n 2, 1) := by decide +kernel
theorem dX0_wordsWanted_33 : decode cX0_wordsWanted 33 = .ok (.aload_n 0, 1) := by decide +kernel
theorem dX0_wordsWanted_34 : decode cX0_wordsWanted 34 = .ok (.iload_n 1, 1) := by decide +kernel
theorem dX0_wordsWanted_35 : decode cX0_wordsWanted 35 = .ok (.iconst 0, 1) := by decide +kernel
theorem dX0_wordsWanted_36 : decode cX0_wordsWanted 36 = .ok (.invokevirtual 77, 3) := by decide +kernel
theorem dX0_wordsWanted_39 : decode cX0_wordsWanted 39 = .ok (.isub, 1) := by decide +kernel
theorem dX0_wordsWanted_40 : decode cX0_wordsWanted 40 = .ok (.invokestatic 121, 3) := by decide +kernel
theorem dX0_wordsWanted_43 : decode cX0_wordsWanted 43 = .ok (.istore_n 3, 1) := by decide +kernel
theorem dX0_wordsWanted_44 : decode cX0_wordsWanted 44 = .ok (.iload_n 3, 1) := by decide +kernel
theorem dX0_wordsWanted_45 : decode cX0_wordsWanted 45 = .ok (.bipush 20, 2) := by decide +kernel
theorem dX0_wordsWanted_47 : decode cX0_wordsWanted 47 = .ok (.if_icmp .le 7, 3) := by decide +kernel
theorem dX0_wordsWanted_50 : decode cX0_wordsWanted 50 = .ok (.iconst (-1), 1) := by decide +kernel
theorem dX0_wordsWanted_51 : decode cX0_wordsWanted 51 = .ok (.goto 4, 3) := by decide +kernel
theorem dX0_wordsWanted_54 : decode cX0_wordsWanted 54 = .ok (.iload_n 3, 1) := by decide +kernel
theorem dX0_wordsWanted_55 : decode cX0_wordsWanted 55 = .ok (.ireturn, 1) := by decide +kernel
set_option maxRecDepth 20000 in
theorem ggX0_wouldBeScorned_X0_requireSlight : GoodIn wsX0_wouldBeScorned wsX0_requireSlight := goodIn_ca (goodIn_r _ [6, 7, 8, 9, 53, 54, 55, 56, 57, 58, 59, 60, 61, 62, 63, 64] (by decide +kernel) (by decide +kernel)) (goodIn_sub (fun _ h => List.mem_cons_of_mem _ (List.mem_append_left _ (List.mem_append_right _ h))) (by decide +kernel))
set_option maxRecDepth 20000 in
theorem gX0_wouldBeScorned_X0_requireSlight : GoodIn wsX0_wouldBeScorned (wsV RX0 65 RX0 yX0_requireSlight wsX0_requireSlight) := goodIn_app (goodIn_of _ (by decide +kernel)) ggX0_wouldBeScorned_X0_requireSlight
set_option maxRecDepth 20000 in
theorem ggX0_wouldBeScorned_X0_requireWords : GoodIn wsX0_wouldBeScorned wsX0_requireWords := goodIn_ca (goodIn_r _ [12, 13, 14] (by decide +kernel) (by decide +kernel)) (goodIn_sub (fun _ h => List.mem_cons_of_mem _ (List.mem_append_right _ h)) (by decide +kernel))
set_option maxRecDepth 20000 in
theorem gX0_wouldBeScorned_X0_requireWords : GoodIn wsX0_wouldBeScorned (va_wsS RX0 74 yX0_requireWords wsX0_requireWords) := goodIn_app (goodIn_of _ (by decide +kernel)) ggX0_wouldBeScorned_X0_requireWords
set_option maxRecDepth 20000 in
theorem ggX0_wouldBeScorned_X0_worthOf : GoodIn wsX0_wouldBeScorned wsX0_worthOf := goodIn_ca (goodIn_r _ [18, 19, 20, 21, 5, 22, 23, 24, 25, 26, 2, 3, 4, 6, 7, 8, 9, 53, 54, 55, 56, 57, 58, 59, 60, 61, 62, 63, 64] (by decide +kernel) (by decide +kernel)) (goodIn_sub (fun _ h => List.mem_cons_of_mem _ (List.mem_append_left _ (List.mem_append_right _ h))) (by decide +kernel))
set_option maxRecDepth 20000 in
theorem gX0_wouldBeScorned_X0_worthOf : GoodIn wsX0_wouldBeScorned (wsV RX0 77 RX0 yX0_worthOf wsX0_worthOf) := goodIn_app (goodIn_of _ (by decide +kernel)) ggX0_wouldBeScorned_X0_worthOf
set_option maxRecDepth 20000 in
theorem ggX0_wouldBeScorned_X0_leastWorthHeard : GoodIn wsX0_wouldBeScorned wsX0_leastWorthHeard := goodIn_ca (goodIn_r _ [30, 31, 32, 33, 34, 35, 36, 37, 5, 38, 26, 2, 3, 4, 6, 7, 8, 9, 39, 40, 41, 42, 43, 44, 45, 46, 47, 23, 48, 49, 50, 51, 52, 53, 54, 55, 56, 57, 58, 59, 60, 61, 62, 63, 64] (by decide +kernel) (by decide +kernel)) (goodIn_sub (fun _ h => List.mem_cons_of_mem _ (List.mem_append_left _ (List.mem_append_right _ h))) (by decide +kernel))
set_option maxRecDepth 20000 in
theorem gX0_wouldBeScorned_X0_leastWorthHeard : GoodIn wsX0_wouldBeScorned (wsV RX0 81 RX0 yX0_leastWorthHeard wsX0_leastWorthHeard) := goodIn_app (goodIn_of _ (by decide +kernel)) ggX0_wouldBeScorned_X0_leastWorthHeard
theorem dX0_wouldBeScorned_0 : decode cX0_wouldBeScorned 0 = .ok (.aload_n 0, 1) := by decide +kernel
theorem dX0_wouldBeScorned_1 : decode cX0_wouldBeScorned 1 = .ok (.iload_n 1, 1) := by decide +kernel
theorem dX0_wouldBeScorned_2 : decode cX0_wouldBeScorned 2 = .ok (.invokevirtual 65, 3) := by decide +kernel
theorem dX0_wouldBeScorned_5 : decode cX0_wouldBeScorned 5 = .ok (.iload_n 2, 1) := by decide +kernel
theorem dX0_wouldBeScorned_6 : decode cX0_wouldBeScorned 6 = .ok (.invokestatic 74, 3) := by decide +kernel
theorem dX0_wouldBeScorned_9 : decode cX0_wouldBeScorned 9 = .ok (.aload_n 0, 1) := by decide +kernel
theorem dX0_wouldBeScorned_10 : decode cX0_wouldBeScorned 10 = .ok (.getfield 26, 3) := by decide +kernel
theorem dX0_wouldBeScorned_13 : decode cX0_wouldBeScorned 13 = .ok (.iload_n 1, 1) := by decide +kernel
theorem dX0_wouldBeScorned_14 : decode cX0_wouldBeScorned 14 = .ok (.iaload, 1) := by decide +kernel
theorem dX0_wouldBeScorned_15 : decode cX0_wouldBeScorned 15 = .ok (.ifCond .ne 21, 3) := by decide +kernel
theorem dX0_wouldBeScorned_18 : decode cX0_wouldBeScorned 18 = .ok (.aload_n 0, 1) := by decide +kernel
theorem dX0_wouldBeScorned_19 : decode cX0_wouldBeScorned 19 = .ok (.iload_n 1, 1) := by decide +kernel
theorem dX0_wouldBeScorned_20 : decode cX0_wouldBeScorned 20 = .ok (.iload_n 2, 1) := by decide +kernel
theorem dX0_wouldBeScorned_21 : decode cX0_wouldBeScorned 21 = .ok (.invokevirtual 77, 3) := by decide +kernel
theorem dX0_wouldBeScorned_24 : decode cX0_wouldBeScorned 24 = .ok (.aload_n 0, 1) := by decide +kernel
theorem dX0_wouldBeScorned_25 : decode cX0_wouldBeScorned 25 = .ok (.iload_n 1, 1) := by decide +kernel
theorem dX0_wouldBeScorned_26 : decode cX0_wouldBeScorned 26 = .ok (.invokevirtual 81, 3) := by decide +kernel
theorem dX0_wouldBeScorned_29 : decode cX0_wouldBeScorned 29 = .ok (.if_icmp .ge 7, 3) := by decide +kernel
theorem dX0_wouldBeScorned_32 : decode cX0_wouldBeScorned 32 = .ok (.iconst 1, 1) := by decide +kernel
theorem dX0_wouldBeScorned_33 : decode cX0_wouldBeScorned 33 = .ok (.goto 4, 3) := by decide +kernel
theorem dX0_wouldBeScorned_36 : decode cX0_wouldBeScorned 36 = .ok (.iconst 0, 1) := by decide +kernel
theorem dX0_wouldBeScorned_37 : decode cX0_wouldBeScorned 37 = .ok (.ireturn, 1) := by decide +kernel
set_option maxRecDepth 20000 in
theorem ggX0_weightIn_X0_requireSlight : GoodIn wsX0_weightIn wsX0_requireSlight := goodIn_ca (goodIn_r _ [9, 10, 11, 12, 28, 29, 30, 31, 32, 33, 34, 35, 36, 37, 38, 39] (by decide +kernel) (by decide +kernel)) (goodIn_sub (fun _ h => List.mem_cons_of_mem _ (List.mem_append_left _ (List.mem_append_right _ h))) (by decide +kernel))
set_option maxRecDepth 20000 in
theorem gX0_weightIn_X0_requireSlight : GoodIn wsX0_weightIn (wsV RX0 65 RX0 yX0_requireSlight wsX0_requireSlight) := goodIn_app (goodIn_of _ (by decide +kernel)) ggX0_weightIn_X0_requireSlight
set_option maxRecDepth 20000 in
theorem ggX0_weightIn_X0_requireDays : GoodIn wsX0_weightIn wsX0_requireDays := goodIn_ca (goodIn_r _ [15, 16, 17] (by decide +kernel) (by decide +kernel)) (goodIn_sub (fun _ h => List.mem_cons_of_mem _ (List.mem_append_right _ h)) (by decide +kernel))
set_option maxRecDepth 20000 in
theorem gX0_weightIn_X0_requireDays : GoodIn wsX0_weightIn (va_wsS RX0 103 yX0_requireDays wsX0_requireDays) := goodIn_app (goodIn_of _ (by decide +kernel)) ggX0_weightIn_X0_requireDays
set_option maxRecDepth 20000 in
theorem ggX0_weightIn_X0_weightWhenBorne : GoodIn wsX0_weightIn wsX0_weightWhenBorne := goodIn_r _ [20, 21, 22, 23, 24, 25, 26, 27] (by decide +kernel) (by decide +kernel)
set_option maxRecDepth 20000 in
theorem gX0_weightIn_X0_weightWhenBorne : GoodIn wsX0_weightIn (va_wsS RX0 124 yX0_weightWhenBorne wsX0_weightWhenBorne) := goodIn_app (goodIn_of _ (by decide +kernel)) ggX0_weightIn_X0_weightWhenBorne
theorem dX0_weightIn_0 : decode cX0_weightIn 0 = .ok (.aload_n 0, 1) := by decide +kernel
theorem dX0_weightIn_1 : decode cX0_weightIn 1 = .ok (.iload_n 1, 1) := by decide +kernel
theorem dX0_weightIn_2 : decode cX0_weightIn 2 = .ok (.invokevirtual 65, 3) := by decide +kernel
theorem dX0_weightIn_5 : decode cX0_weightIn 5 = .ok (.iload_n 2, 1) := by decide +kernel
theorem dX0_weightIn_6 : decode cX0_weightIn 6 = .ok (.invokestatic 103, 3) := by decide +kernel
theorem dX0_weightIn_9 : decode cX0_weightIn 9 = .ok (.aload_n 0, 1) := by decide +kernel
theorem dX0_weightIn_10 : decode cX0_weightIn 10 = .ok (.getfield 26, 3) := by decide +kernel
theorem dX0_weightIn_13 : decode cX0_weightIn 13 = .ok (.iload_n 1, 1) := by decide +kernel
theorem dX0_weightIn_14 : decode cX0_weightIn 14 = .ok (.iaload, 1) := by decide +kernel
theorem dX0_weightIn_15 : decode cX0_weightIn 15 = .ok (.ifCond .ne 16, 3) := by decide +kernel
theorem dX0_weightIn_18 : decode cX0_weightIn 18 = .ok (.aload_n 0, 1) := by decide +kernel
theorem dX0_weightIn_19 : decode cX0_weightIn 19 = .ok (.getfield 32, 3) := by decide +kernel
theorem dX0_weightIn_22 : decode cX0_weightIn 22 = .ok (.iload_n 1, 1) := by decide +kernel
theorem dX0_weightIn_23 : decode cX0_weightIn 23 = .ok (.iaload, 1) := by decide +kernel
theorem dX0_weightIn_24 : decode cX0_weightIn 24 = .ok (.iload_n 2, 1) := by decide +kernel
theorem dX0_weightIn_25 : decode cX0_weightIn 25 = .ok (.iadd, 1) := by decide +kernel
theorem dX0_weightIn_26 : decode cX0_weightIn 26 = .ok (.bipush 30, 2) := by decide +kernel
theorem dX0_weightIn_28 : decode cX0_weightIn 28 = .ok (.if_icmp .lt 5, 3) := by decide +kernel
theorem dX0_weightIn_31 : decode cX0_weightIn 31 = .ok (.iconst 0, 1) := by decide +kernel
theorem dX0_weightIn_32 : decode cX0_weightIn 32 = .ok (.ireturn, 1) := by decide +kernel
theorem dX0_weightIn_33 : decode cX0_weightIn 33 = .ok (.aload_n 0, 1) := by decide +kernel
theorem dX0_weightIn_34 : decode cX0_weightIn 34 = .ok (.getfield 23, 3) := by decide +kernel
theorem dX0_weightIn_37 : decode cX0_weightIn 37 = .ok (.iload_n 1, 1) := by decide +kernel
theorem dX0_weightIn_38 : decode cX0_weightIn 38 = .ok (.iaload, 1) := by decide +kernel
theorem dX0_weightIn_39 : decode cX0_weightIn 39 = .ok (.istore_n 3, 1) := by decide +kernel
theorem dX0_weightIn_40 : decode cX0_weightIn 40 = .ok (.iconst 1, 1) := by decide +kernel
theorem dX0_weightIn_41 : decode cX0_weightIn 41 = .ok (.istore 4, 2) := by decide +kernel
theorem dX0_weightIn_43 : decode cX0_weightIn 43 = .ok (.iload 4, 2) := by decide +kernel
theorem dX0_weightIn_45 : decode cX0_weightIn 45 = .ok (.iload_n 2, 1) := by decide +kernel
theorem dX0_weightIn_46 : decode cX0_weightIn 46 = .ok (.if_icmp .gt 23, 3) := by decide +kernel
theorem dX0_weightIn_49 : decode cX0_weightIn 49 = .ok (.iload_n 3, 1) := by decide +kernel
theorem dX0_weightIn_50 : decode cX0_weightIn 50 = .ok (.aload_n 0, 1) := by decide +kernel
theorem dX0_weightIn_51 : decode cX0_weightIn 51 = .ok (.getfield 29, 3) := by decide +kernel
theorem dX0_weightIn_54 : decode cX0_weightIn 54 = .ok (.iload_n 1, 1) := by decide +kernel
theorem dX0_weightIn_55 : decode cX0_weightIn 55 = .ok (.iaload, 1) := by decide +kernel
theorem dX0_weightIn_56 : decode cX0_weightIn 56 = .ok (.iload 4, 2) := by decide +kernel
theorem dX0_weightIn_58 : decode cX0_weightIn 58 = .ok (.iadd, 1) := by decide +kernel
theorem dX0_weightIn_59 : decode cX0_weightIn 59 = .ok (.invokestatic 124, 3) := by decide +kernel
theorem dX0_weightIn_62 : decode cX0_weightIn 62 = .ok (.istore_n 3, 1) := by decide +kernel
theorem dX0_weightIn_63 : decode cX0_weightIn 63 = .ok (.iinc 4 1, 3) := by decide +kernel
theorem dX0_weightIn_66 : decode cX0_weightIn 66 = .ok (.goto (-23), 3) := by decide +kernel
theorem dX0_weightIn_69 : decode cX0_weightIn 69 = .ok (.iload_n 3, 1) := by decide +kernel
theorem dX0_weightIn_70 : decode cX0_weightIn 70 = .ok (.ireturn, 1) := by decide +kernel
set_option maxRecDepth 20000 in
theorem ggX0_daysUntilForgotten_X0_requireSlight : GoodIn wsX0_daysUntilForgotten wsX0_requireSlight := goodIn_ca (goodIn_r _ [7, 8, 9, 10, 11, 12, 13, 14, 15, 16, 17, 18, 19, 20, 21, 22] (by decide +kernel) (by decide +kernel)) (goodIn_sub (fun _ h => List.mem_cons_of_mem _ (List.mem_append_right _ h)) (by decide +kernel))
set_option maxRecDepth 20000 in
theorem gX0_daysUntilForgotten_X0_requireSlight : GoodIn wsX0_daysUntilForgotten (wsV RX0 65 RX0 yX0_requireSlight wsX0_requireSlight) := goodIn_app (goodIn_of _ (by decide +kernel)) ggX0_daysUntilForgotten_X0_requireSlight
theorem dX0_daysUntilForgotten_0 : decode cX0_daysUntilForgotten 0 = .ok (.aload_n 0, 1) := by decide +kernel
theorem dX0_daysUntilForgotten_1 : decode cX0_daysUntilForgotten 1 = .ok (.iload_n 1, 1) := by decide +kernel
theorem dX0_daysUntilForgotten_2 : decode cX0_daysUntilForgotten 2 = .ok (.invokevirtual 65, 3) := by decide +kernel
theorem dX0_daysUntilForgotten_5 : decode cX0_daysUntilForgotten 5 = .ok (.aload_n 0, 1) := by decide +kernel
theorem dX0_daysUntilForgotten_6 : decode cX0_daysUntilForgotten 6 = .ok (.getfield 26, 3) := by decide +kernel
theorem dX0_daysUntilForgotten_9 : decode cX0_daysUntilForgotten 9 = .ok (.iload_n 1, 1) := by decide +kernel
theorem dX0_daysUntilForgotten_10 : decode cX0_daysUntilForgotten 10 = .ok (.iaload, 1) := by decide +kernel
theorem dX0_daysUntilForgotten_11 : decode cX0_daysUntilForgotten 11 = .ok (.ifCond .ne 15, 3) := by decide +kernel
theorem dX0_daysUntilForgotten_14 : decode cX0_daysUntilForgotten 14 = .ok (.bipush 30, 2) := by decide +kernel
theorem dX0_daysUntilForgotten_16 : decode cX0_daysUntilForgotten 16 = .ok (.aload_n 0, 1) := by decide +kernel
theorem dX0_daysUntilForgotten_17 : decode cX0_daysUntilForgotten 17 = .ok (.getfield 32, 3) := by decide +kernel
theorem dX0_daysUntilForgotten_20 : decode cX0_daysUntilForgotten 20 = .ok (.iload_n 1, 1) := by decide +kernel
theorem dX0_daysUntilForgotten_21 : decode cX0_daysUntilForgotten 21 = .ok (.iaload, 1) := by decide +kernel
theorem dX0_daysUntilForgotten_22 : decode cX0_daysUntilForgotten 22 = .ok (.isub, 1) := by decide +kernel
theorem dX0_daysUntilForgotten_23 : decode cX0_daysUntilForgotten 23 = .ok (.goto 4, 3) := by decide +kernel
theorem dX0_daysUntilForgotten_26 : decode cX0_daysUntilForgotten 26 = .ok (.iconst (-1), 1) := by decide +kernel
theorem dX0_daysUntilForgotten_27 : decode cX0_daysUntilForgotten 27 = .ok (.ireturn, 1) := by decide +kernel
set_option maxRecDepth 20000 in
theorem ggX0_borneIn_X0_requirePerson : GoodIn wsX0_borneIn wsX0_requirePerson := goodIn_ca (goodIn_r _ [7, 8, 9, 10, 38, 39, 40, 41, 42, 43, 44, 45, 46, 47, 48, 49] (by decide +kernel) (by decide +kernel)) (goodIn_sub (fun _ h => List.mem_cons_of_mem _ (List.mem_append_left _ (List.mem_append_right _ h))) (by decide +kernel))
set_option maxRecDepth 20000 in
theorem gX0_borneIn_X0_requirePerson : GoodIn wsX0_borneIn (wsV RX0 50 RX0 yX0_requirePerson wsX0_requirePerson) := goodIn_app (goodIn_of _ (by decide +kernel)) ggX0_borneIn_X0_requirePerson
set_option maxRecDepth 20000 in
theorem ggX0_borneIn_X0_requireDays : GoodIn wsX0_borneIn wsX0_requireDays := goodIn_ca (goodIn_r _ [13, 14, 15] (by decide +kernel) (by decide +kernel)) (goodIn_sub (fun _ h => List.mem_cons_of_mem _ (List.mem_append_right _ h)) (by decide +kernel))
set_option maxRecDepth 20000 in
theorem gX0_borneIn_X0_requireDays : GoodIn wsX0_borneIn (va_wsS RX0 103 yX0_requireDays wsX0_requireDays) := goodIn_app (goodIn_of _ (by decide +kernel)) ggX0_borneIn_X0_requireDays
set_option maxRecDepth 20000 in
theorem ggX0_borneIn_X0_weightIn : GoodIn wsX0_borneIn wsX0_weightIn := goodIn_ca (goodIn_ca (goodIn_r _ [19, 20, 21, 22, 23, 24, 25, 26, 6, 27, 8, 9, 1, 11, 12, 13, 14, 15, 28, 29, 30, 31, 32, 33, 34, 35, 36, 37, 38, 39, 40, 41, 42, 43, 44, 45, 46, 47, 48, 49] (by decide +kernel) (by decide +kernel)) (goodIn_sub (fun _ h => List.mem_cons_of_mem _ (List.mem_append_left _ (List.mem_append_right _ h))) (by decide +kernel))) (goodIn_sub (fun _ h => List.mem_cons_of_mem _ (List.mem_append_right _ h)) (by decide +kernel))
set_option maxRecDepth 20000 in
theorem gX0_borneIn_X0_weightIn : GoodIn wsX0_borneIn (wsV RX0 127 RX0 yX0_weightIn wsX0_weightIn) := goodIn_app (goodIn_of _ (by decide +kernel)) ggX0_borneIn_X0_weightIn
theorem dX0_borneIn_0 : decode cX0_borneIn 0 = .ok (.aload_n 0, 1) := by decide +kernel
theorem dX0_borneIn_1 : decode cX0_borneIn 1 = .ok (.iload_n 1, 1) := by decide +kernel
theorem dX0_borneIn_2 : decode cX0_borneIn 2 = .ok (.invokevirtual 50, 3) := by decide +kernel
theorem dX0_borneIn_5 : decode cX0_borneIn 5 = .ok (.iload_n 2, 1) := by decide +kernel
theorem dX0_borneIn_6 : decode cX0_borneIn 6 = .ok (.invokestatic 103, 3) := by decide +kernel
theorem dX0_borneIn_9 : decode cX0_borneIn 9 = .ok (.iconst 0, 1) := by decide +kernel
theorem dX0_borneIn_10 : decode cX0_borneIn 10 = .ok (.istore_n 3, 1) := by decide +kernel
theorem dX0_borneIn_11 : decode cX0_borneIn 11 = .ok (.iconst 0, 1) := by decide +kernel
theorem dX0_borneIn_12 : decode cX0_borneIn 12 = .ok (.istore 4, 2) := by decide +kernel
theorem dX0_borneIn_14 : decode cX0_borneIn 14 = .ok (.iload 4, 2) := by decide +kernel
theorem dX0_borneIn_16 : decode cX0_borneIn 16 = .ok (.aload_n 0, 1) := by decide +kernel
theorem dX0_borneIn_17 : decode cX0_borneIn 17 = .ok (.getfield 60, 3) := by decide +kernel
theorem dX0_borneIn_20 : decode cX0_borneIn 20 = .ok (.if_icmp .ge 30, 3) := by decide +kernel
theorem dX0_borneIn_23 : decode cX0_borneIn 23 = .ok (.aload_n 0, 1) := by decide +kernel
theorem dX0_borneIn_24 : decode cX0_borneIn 24 = .ok (.getfield 20, 3) := by decide +kernel
theorem dX0_borneIn_27 : decode cX0_borneIn 27 = .ok (.iload 4, 2) := by decide +kernel
theorem dX0_borneIn_29 : decode cX0_borneIn 29 = .ok (.iaload, 1) := by decide +kernel
theorem dX0_borneIn_30 : decode cX0_borneIn 30 = .ok (.iload_n 1, 1) := by decide +kernel
theorem dX0_borneIn_31 : decode cX0_borneIn 31 = .ok (.if_icmp .ne 13, 3) := by decide +kernel
theorem dX0_borneIn_34 : decode cX0_borneIn 34 = .ok (.iload_n 3, 1) := by decide +kernel
theorem dX0_borneIn_35 : decode cX0_borneIn 35 = .ok (.aload_n 0, 1) := by decide +kernel
theorem dX0_borneIn_36 : decode cX0_borneIn 36 = .ok (.iload 4, 2) := by decide +kernel
theorem dX0_borneIn_38 : decode cX0_borneIn 38 = .ok (.iload_n 2, 1) := by decide +kernel
theorem dX0_borneIn_39 : decode cX0_borneIn 39 = .ok (.invokevirtual 127, 3) := by decide +kernel
theorem dX0_borneIn_42 : decode cX0_borneIn 42 = .ok (.iadd, 1) := by decide +kernel
theorem dX0_borneIn_43 : decode cX0_borneIn 43 = .ok (.istore_n 3, 1) := by decide +kernel
theorem dX0_borneIn_44 : decode cX0_borneIn 44 = .ok (.iinc 4 1, 3) := by decide +kernel
theorem dX0_borneIn_47 : decode cX0_borneIn 47 = .ok (.goto (-33), 3) := by decide +kernel
theorem dX0_borneIn_50 : decode cX0_borneIn 50 = .ok (.iload_n 3, 1) := by decide +kernel
theorem dX0_borneIn_51 : decode cX0_borneIn 51 = .ok (.ireturn, 1) := by decide +kernel
set_option maxRecDepth 20000 in
theorem ggX0_worstToKeep_X0_requirePerson : GoodIn wsX0_worstToKeep wsX0_requirePerson := goodIn_ca (goodIn_r _ [9, 10, 11, 12, 38, 39, 40, 41, 42, 43, 44, 45, 46, 47, 48, 49] (by decide +kernel) (by decide +kernel)) (goodIn_sub (fun _ h => List.mem_cons_of_mem _ (List.mem_append_left _ (List.mem_append_right _ h))) (by decide +kernel))
set_option maxRecDepth 20000 in
theorem gX0_worstToKeep_X0_requirePerson : GoodIn wsX0_worstToKeep (wsV RX0 50 RX0 yX0_requirePerson wsX0_requirePerson) := goodIn_app (goodIn_of _ (by decide +kernel)) ggX0_worstToKeep_X0_requirePerson
set_option maxRecDepth 20000 in
theorem ggX0_worstToKeep_X0_weightIn : GoodIn wsX0_worstToKeep wsX0_weightIn := goodIn_ca (goodIn_ca (goodIn_r _ [16, 2, 17, 4, 18, 19, 20, 21, 8, 22, 10, 11, 1, 23, 24, 25, 26, 27, 28, 29, 30, 31, 32, 33, 34, 35, 36, 37, 38, 39, 40, 41, 42, 43, 44, 45, 46, 47, 48, 49] (by decide +kernel) (by decide +kernel)) (goodIn_sub (fun _ h => List.mem_cons_of_mem _ (List.mem_append_left _ (List.mem_append_right _ h))) (by decide +kernel))) (goodIn_sub (fun _ h => List.mem_cons_of_mem _ (List.mem_append_right _ h)) (by decide +kernel))
set_option maxRecDepth 20000 in
theorem gX0_worstToKeep_X0_weightIn : GoodIn wsX0_worstToKeep (wsV RX0 127 RX0 yX0_weightIn wsX0_weightIn) := goodIn_app (goodIn_of _ (by decide +kernel)) ggX0_worstToKeep_X0_weightIn
theorem dX0_worstToKeep_0 : decode cX0_worstToKeep 0 = .ok (.aload_n 0, 1) := by decide +kernel
theorem dX0_worstToKeep_1 : decode cX0_worstToKeep 1 = .ok (.iload_n 1, 1) := by decide +kernel
theorem dX0_worstToKeep_2 : decode cX0_worstToKeep 2 = .ok (.invokevirtual 50, 3) := by decide +kernel
theorem dX0_worstToKeep_5 : decode cX0_worstToKeep 5 = .ok (.iconst (-1), 1) := by decide +kernel
theorem dX0_worstToKeep_6 : decode cX0_worstToKeep 6 = .ok (.istore_n 2, 1) := by decide +kernel
theorem dX0_worstToKeep_7 : decode cX0_worstToKeep 7 = .ok (.iconst 0, 1) := by decide +kernel
theorem dX0_worstToKeep_8 : decode cX0_worstToKeep 8 = .ok (.istore_n 3, 1) := by decide +kernel
theorem dX0_worstToKeep_9 : decode cX0_worstToKeep 9 = .ok (.iconst 0, 1) := by decide +kernel
theorem dX0_worstToKeep_10 : decode cX0_worstToKeep 10 = .ok (.istore 4, 2) := by decide +kernel
theorem dX0_worstToKeep_12 : decode cX0_worstToKeep 12 = .ok (.iload 4, 2) := by decide +kernel
theorem dX0_worstToKeep_14 : decode cX0_worstToKeep 14 = .ok (.aload_n 0, 1) := by decide +kernel
theorem dX0_worstToKeep_15 : decode cX0_worstToKeep 15 = .ok (.getfield 60, 3) := by decide +kernel
theorem dX0_worstToKeep_18 : decode cX0_worstToKeep 18 = .ok (.if_icmp .ge 65, 3) := by decide +kernel
theorem dX0_worstToKeep_21 : decode cX0_worstToKeep 21 = .ok (.aload_n 0, 1) := by decide +kernel
theorem dX0_worstToKeep_22 : decode cX0_worstToKeep 22 = .ok (.getfield 26, 3) := by decide +kernel
theorem dX0_worstToKeep_25 : decode cX0_worstToKeep 25 = .ok (.iload 4, 2) := by decide +kernel
theorem dX0_worstToKeep_27 : decode cX0_worstToKeep 27 = .ok (.iaload, 1) := by decide +kernel
theorem dX0_worstToKeep_28 : decode cX0_worstToKeep 28 = .ok (.ifCond .ne 49, 3) := by decide +kernel
theorem dX0_worstToKeep_31 : decode cX0_worstToKeep 31 = .ok (.aload_n 0, 1) := by decide +kernel
theorem dX0_worstToKeep_32 : decode cX0_worstToKeep 32 = .ok (.getfield 17, 3) := by decide +kernel
theorem dX0_worstToKeep_35 : decode cX0_worstToKeep 35 = .ok (.iload 4, 2) := by decide +kernel
theorem dX0_worstToKeep_37 : decode cX0_worstToKeep 37 = .ok (.iaload, 1) := by decide +kernel
theorem dX0_worstToKeep_38 : decode cX0_worstToKeep 38 = .ok (.iload_n 1, 1) := by decide +kernel
theorem dX0_worstToKeep_39 : decode cX0_worstToKeep 39 = .ok (.if_icmp .ne 38, 3) := by decide +kernel
theorem dX0_worstToKeep_42 : decode cX0_worstToKeep 42 = .ok (.aload_n 0, 1) := by decide +kernel
theorem dX0_worstToKeep_43 : decode cX0_worstToKeep 43 = .ok (.iload 4, 2) := by decide +kernel
theorem dX0_worstToKeep_45 : decode cX0_worstToKeep 45 = .ok (.bipush 20, 2) := by decide +kernel
theorem dX0_worstToKeep_47 : decode cX0_worstToKeep 47 = .ok (.invokevirtual 127, 3) := by decide +kernel
theorem dX0_worstToKeep_50 : decode cX0_worstToKeep 50 = .ok (.aload_n 0, 1) := by decide +kernel
theorem dX0_worstToKeep_51 : decode cX0_worstToKeep 51 = .ok (.getfield 23, 3) := by decide +kernel
theorem dX0_worstToKeep_54 : decode cX0_worstToKeep 54 = .ok (.iload 4, 2) := by decide +kernel
theorem dX0_worstToKeep_56 : decode cX0_worstToKeep 56 = .ok (.iaload, 1) := by decide +kernel
theorem dX0_worstToKeep_57 : decode cX0_worstToKeep 57 = .ok (.isub, 1) := by decide +kernel
theorem dX0_worstToKeep_58 : decode cX0_worstToKeep 58 = .ok (.istore 5, 2) := by decide +kernel
theorem dX0_worstToKeep_60 : decode cX0_worstToKeep 60 = .ok (.iload_n 2, 1) := by decide +kernel
theorem dX0_worstToKeep_61 : decode cX0_worstToKeep 61 = .ok (.iconst (-1), 1) := by decide +kernel
theorem dX0_worstToKeep_62 : decode cX0_worstToKeep 62 = .ok (.if_icmp .eq 9, 3) := by decide +kernel
theorem dX0_worstToKeep_65 : decode cX0_worstToKeep 65 = .ok (.iload 5, 2) := by decide +kernel
theorem dX0_worstToKeep_67 : decode cX0_worstToKeep 67 = .ok (.iload_n 3, 1) := by decide +kernel
theorem dX0_worstToKeep_68 : decode cX0_worstToKeep 68 = .ok (.if_icmp .le 9, 3) := by decide +kernel
theorem dX0_worstToKeep_71 : decode cX0_worstToKeep 71 = .ok (.iload 4, 2) := by decide +kernel
theorem dX0_worstToKeep_73 : decode cX0_worstToKeep 73 = .ok (.istore_n 2, 1) := by decide +kernel
theorem dX0_worstToKeep_74 : decode cX0_worstToKeep 74 = .ok (.iload 5, 2) := by decide +kernel
theorem dX0_worstToKeep_76 : decode cX0_worstToKeep 76 = .ok (.istore_n 3, 1) := by decide +kernel
theorem dX0_worstToKeep_77 : decode cX0_worstToKeep 77 = .ok (.iinc 4 1, 3) := by decide +kernel
theorem dX0_worstToKeep_80 : decode cX0_worstToKeep 80 = .ok (.goto (-68), 3) := by decide +kernel
theorem dX0_worstToKeep_83 : decode cX0_worstToKeep 83 = .ok (.iload_n 2, 1) := by decide +kernel
theorem dX0_worstToKeep_84 : decode cX0_worstToKeep 84 = .ok (.ireturn, 1) := by decide +kernel
theorem dX0_meanWeight_0 : decode cX0_meanWeight 0 = .ok (.iconst 0, 1) := by decide +kernel
theorem dX0_meanWeight_1 : decode cX0_meanWeight 1 = .ok (.istore_n 1, 1) := by decide +kernel
theorem dX0_meanWeight_2 : decode cX0_meanWeight 2 = .ok (.iconst 0, 1) := by decide +kernel
theorem dX0_meanWeight_3 : decode cX0_meanWeight 3 = .ok (.istore_n 2, 1) := by decide +kernel
theorem dX0_meanWeight_4 : decode cX0_meanWeight 4 = .ok (.iconst 0, 1) := by decide +kernel
theorem dX0_meanWeight_5 : decode cX0_meanWeight 5 = .ok (.istore_n 3, 1) := by decide +kernel
theorem dX0_meanWeight_6 : decode cX0_meanWeight 6 = .ok (.iload_n 3, 1) := by decide +kernel
theorem dX0_meanWeight_7 : decode cX0_meanWeight 7 = .ok (.aload_n 0, 1) := by decide +kernel
theorem dX0_meanWeight_8 : decode cX0_meanWeight 8 = .ok (.getfield 60, 3) := by decide +kernel
theorem dX0_meanWeight_11 : decode cX0_meanWeight 11 = .ok (.if_icmp .ge 30, 3) := by decide +kernel
theorem dX0_meanWeight_14 : decode cX0_meanWeight 14 = .ok (.aload_n 0, 1) := by decide +kernel
theorem dX0_meanWeight_15 : decode cX0_meanWeight 15 = .ok (.getfield 26, 3) := by decide +kernel
theorem dX0_meanWeight_18 : decode cX0_meanWeight 18 = .ok (.iload_n 3, 1) := by decide +kernel
theorem dX0_meanWeight_19 : decode cX0_meanWeight 19 = .ok (.iaload, 1) := by decide +kernel
theorem dX0_meanWeight_20 : decode cX0_meanWeight 20 = .ok (.ifCond .ne 15, 3) := by decide +kernel
theorem dX0_meanWeight_23 : decode cX0_meanWeight 23 = .ok (.iload_n 1, 1) := by decide +kernel
theorem dX0_meanWeight_24 : decode cX0_meanWeight 24 = .ok (.aload_n 0, 1) := by decide +kernel
theorem dX0_meanWeight_25 : decode cX0_meanWeight 25 = .ok (.getfield 23, 3) := by decide +kernel
theorem dX0_meanWeight_28 : decode cX0_meanWeight 28 = .ok (.iload_n 3, 1) := by decide +kernel
theorem dX0_meanWeight_29 : decode cX0_meanWeight 29 = .ok (.iaload, 1) := by decide +kernel
theorem dX0_meanWeight_30 : decode cX0_meanWeight 30 = .ok (.iadd, 1) := by decide +kernel
theorem dX0_meanWeight_31 : decode cX0_meanWeight 31 = .ok (.istore_n 1, 1) := by decide +kernel
theorem dX0_meanWeight_32 : decode cX0_meanWeight 32 = .ok (.iinc 2 1, 3) := by decide +kernel
theorem dX0_meanWeight_35 : decode cX0_meanWeight 35 = .ok (.iinc 3 1, 3) := by decide +kernel
theorem dX0_meanWeight_38 : decode cX0_meanWeight 38 = .ok (.goto (-32), 3) := by decide +kernel
theorem dX0_meanWeight_41 : decode cX0_meanWeight 41 = .ok (.iload_n 2, 1) := by decide +kernel
theorem dX0_meanWeight_42 : decode cX0_meanWeight 42 = .ok (.ifCond .ne 7, 3) := by decide +kernel
theorem dX0_meanWeight_45 : decode cX0_meanWeight 45 = .ok (.dconst 0, 1) := by decide +kernel
theorem dX0_meanWeight_46 : decode cX0_meanWeight 46 = .ok (.goto 8, 3) := by decide +kernel
theorem dX0_meanWeight_49 : decode cX0_meanWeight 49 = .ok (.iload_n 1, 1) := by decide +kernel
theorem dX0_meanWeight_50 : decode cX0_meanWeight 50 = .ok (.i2d, 1) := by decide +kernel
theorem dX0_meanWeight_51 : decode cX0_meanWeight 51 = .ok (.iload_n 2, 1) := by decide +kernel
theorem dX0_meanWeight_52 : decode cX0_meanWeight 52 = .ok (.i2d, 1) := by decide +kernel
theorem dX0_meanWeight_53 : decode cX0_meanWeight 53 = .ok (.ddiv, 1) := by decide +kernel
theorem dX0_meanWeight_54 : decode cX0_meanWeight 54 = .ok (.dreturn, 1) := by decide +kernel
set_option maxRecDepth 20000 in
theorem ggX0_digest_X0_digestOfTheWhole : GoodIn wsX0_digest wsX0_digestOfTheWhole := goodIn_ca (goodIn_ca (goodIn_r _ [8, 9, 10, 11, 7, 12, 13, 14, 15, 16, 17, 18, 19, 20, 21, 2, 22, 23, 24, 25, 3, 26, 27, 28, 29, 30, 31, 32, 33, 34, 35, 36, 37, 38, 39, 40, 41, 42, 43, 44, 45, 46, 47, 48, 49, 50, 51, 52, 53, 54, 55, 56, 57, 58, 59, 60, 61, 62, 63, 64, 65, 66, 67, 68, 69, 70, 71, 72, 73, 74, 75, 76, 77, 78, 79, 80, 81, 82, 83, 168, 169, 170, 171, 172, 173, 174, 175, 176, 177, 178, 179] (by decide +kernel) (by decide +kernel)) (goodIn_sub (fun _ h => List.mem_cons_of_mem _ (List.mem_append_left _ (List.mem_append_right _ h))) (by decide +kernel))) (goodIn_sub (fun _ h => List.mem_cons_of_mem _ (List.mem_append_right _ h)) (by decide +kernel))
set_option maxRecDepth 20000 in
theorem gX0_digest_X0_digestOfTheWhole : GoodIn wsX0_digest (wsV RX0 132 RX0 yX0_digestOfTheWhole wsX0_digestOfTheWhole) := goodIn_app (goodIn_of _ (by decide +kernel)) ggX0_digest_X0_digestOfTheWhole
set_option maxRecDepth 20000 in
theorem ggX0_digest_X0_digestOfPerson : GoodIn wsX0_digest wsX0_digestOfPerson := goodIn_ca (goodIn_ca (goodIn_r _ [87, 88, 89, 90, 7, 91, 30, 47, 48, 49, 50, 51, 52, 2, 14, 15, 16, 17, 92, 93, 94, 95, 96, 40, 41, 42, 43, 3, 44, 45, 46, 97, 98, 99, 100, 75, 101, 102, 103, 104, 105, 106, 107, 57, 58, 108, 109, 110, 111, 112, 113, 76, 77, 78, 79, 114, 115, 116, 117, 118, 119, 120, 121, 122, 123, 124, 125, 126, 127, 168, 169, 170, 171, 172, 173, 174, 175, 176, 177, 178, 179] (by decide +kernel) (by decide +kernel)) (goodIn_sub (fun _ h => List.mem_cons_of_mem _ (List.mem_append_left _ (List.mem_append_right _ h))) (by decide +kernel))) (goodIn_sub (fun _ h => List.mem_cons_of_mem _ (List.mem_append_right _ h)) (by decide +kernel))
set_option maxRecDepth 20000 in
theorem gX0_digest_X0_digestOfPerson : GoodIn wsX0_digest (wsV RX0 136 RX0 yX0_digestOfPerson wsX0_digestOfPerson) := goodIn_app (goodIn_of _ (by decide +kernel)) ggX0_digest_X0_digestOfPerson
set_option maxRecDepth 20000 in
theorem ggX0_digest_X0_digestOfSlight : GoodIn wsX0_digest wsX0_digestOfSlight := goodIn_ca (goodIn_ca (goodIn_r _ [131, 132, 133, 134, 7, 135, 46, 76, 77, 78, 79, 51, 52, 3, 14, 15, 16, 17, 136, 137, 138, 139, 44, 140, 141, 142, 143, 113, 144, 145, 146, 147, 112, 148, 149, 150, 151, 2, 30, 75, 45, 152, 153, 154, 155, 117, 118, 119, 120, 156, 157, 158, 159, 80, 81, 82, 83, 92, 93, 94, 95, 96, 47, 48, 49, 50, 160, 161, 162, 163, 108, 109, 110, 111, 105, 106, 107, 57, 58, 114, 115, 116, 121, 122, 123, 164, 165, 166, 167, 168, 169, 170, 171, 172, 173, 174, 175, 176, 177, 178, 179] (by decide +kernel) (by decide +kernel)) (goodIn_sub (fun _ h => List.mem_cons_of_mem _ (List.mem_append_left _ (List.mem_append_right _ h))) (by decide +kernel))) (goodIn_sub (fun _ h => List.mem_cons_of_mem _ (List.mem_append_right _ h)) (by decide +kernel))
set_option maxRecDepth 20000 in
theorem gX0_digest_X0_digestOfSlight : GoodIn wsX0_digest (wsV RX0 140 RX0 yX0_digestOfSlight wsX0_digestOfSlight) := goodIn_app (goodIn_of _ (by decide +kernel)) ggX0_digest_X0_digestOfSlight
theorem dX0_digest_0 : decode cX0_digest 0 = .ok (.aload_n 0, 1) := by decide +kernel
theorem dX0_digest_1 : decode cX0_digest 1 = .ok (.ldc2_w 130, 3) := by decide +kernel
theorem dX0_digest_4 : decode cX0_digest 4 = .ok (.invokevirtual 132, 3) := by decide +kernel
theorem dX0_digest_7 : decode cX0_digest 7 = .ok (.lstore_n 1, 1) := by decide +kernel
theorem dX0_digest_8 : decode cX0_digest 8 = .ok (.iconst 0, 1) := by decide +kernel
theorem dX0_digest_9 : decode cX0_digest 9 = .ok (.istore_n 3, 1) := by decide +kernel
theorem dX0_digest_10 : decode cX0_digest 10 = .ok (.iload_n 3, 1) := by decide +kernel
theorem dX0_digest_11 : decode cX0_digest 11 = .ok (.aload_n 0, 1) := by decide +kernel
theorem dX0_digest_12 : decode cX0_digest 12 = .ok (.getfield 39, 3) := by decide +kernel
theorem dX0_digest_15 : decode cX0_digest 15 = .ok (.if_icmp .ge 16, 3) := by decide +kernel
theorem dX0_digest_18 : decode cX0_digest 18 = .ok (.aload_n 0, 1) := by decide +kernel
theorem dX0_digest_19 : decode cX0_digest 19 = .ok (.lload_n 1, 1) := by decide +kernel
theorem dX0_digest_20 : decode cX0_digest 20 = .ok (.iload_n 3, 1) := by decide +kernel
theorem dX0_digest_21 : decode cX0_digest 21 = .ok (.invokevirtual 136, 3) := by decide +kernel
theorem dX0_digest_24 : decode cX0_digest 24 = .ok (.lstore_n 1, 1) := by decide +kernel
theorem dX0_digest_25 : decode cX0_digest 25 = .ok (.iinc 3 1, 3) := by decide +kernel
theorem dX0_digest_28 : decode cX0_digest 28 = .ok (.goto (-18), 3) := by decide +kernel
theorem dX0_digest_31 : decode cX0_digest 31 = .ok (.iconst 0, 1) := by decide +kernel
theorem dX0_digest_32 : decode cX0_digest 32 = .ok (.istore_n 3, 1) := by decide +kernel
theorem dX0_digest_33 : decode cX0_digest 33 = .ok (.iload_n 3, 1) := by decide +kernel
theorem dX0_digest_34 : decode cX0_digest 34 = .ok (.aload_n 0, 1) := by decide +kernel
theorem dX0_digest_35 : decode cX0_digest 35 = .ok (.getfield 60, 3) := by decide +kernel
theorem dX0_digest_38 : decode cX0_digest 38 = .ok (.if_icmp .ge 16, 3) := by decide +kernel
theorem dX0_digest_41 : decode cX0_digest 41 = .ok (.aload_n 0, 1) := by decide +kernel
theorem dX0_digest_42 : decode cX0_digest 42 = .ok (.lload_n 1, 1) := by decide +kernel
theorem dX0_digest_43 : decode cX0_digest 43 = .ok (.iload_n 3, 1) := by decide +kernel
theorem dX0_digest_44 : decode cX0_digest 44 = .ok (.invokevirtual 140, 3) := by decide +kernel
theorem dX0_digest_47 : decode cX0_digest 47 = .ok (.lstore_n 1, 1) := by decide +kernel
theorem dX0_digest_48 : decode cX0_digest 48 = .ok (.iinc 3 1, 3) := by decide +kernel
theorem dX0_digest_51 : decode cX0_digest 51 = .ok (.goto (-18), 3) := by decide +kernel
theorem dX0_digest_54 : decode cX0_digest 54 = .ok (.lload_n 1, 1) := by decide +kernel
theorem dX0_digest_55 : decode cX0_digest 55 = .ok (.lreturn, 1) := by decide +kernel
theorem dX0_requirePerson_0 : decode cX0_requirePerson 0 = .ok (.iload_n 1, 1) := by decide +kernel
theorem dX0_requirePerson_1 : decode cX0_requirePerson 1 = .ok (.ifCond .lt 11, 3) := by decide +kernel
theorem dX0_requirePerson_4 : decode cX0_requirePerson 4 = .ok (.iload_n 1, 1) := by decide +kernel
theorem dX0_requirePerson_5 : decode cX0_requirePerson 5 = .ok (.aload_n 0, 1) := by decide +kernel
theorem dX0_requirePerson_6 : decode cX0_requirePerson 6 = .ok (.getfield 39, 3) := by decide +kernel
theorem dX0_requirePerson_9 : decode cX0_requirePerson 9 = .ok (.if_icmp .lt 13, 3) := by decide +kernel
theorem dX0_requirePerson_12 : decode cX0_requirePerson 12 = .ok (.new 143, 3) := by decide +kernel
theorem dX0_requirePerson_15 : decode cX0_requirePerson 15 = .ok (.dup, 1) := by decide +kernel
theorem dX0_requirePerson_16 : decode cX0_requirePerson 16 = .ok (.ldc 145, 2) := by decide +kernel
theorem dX0_requirePerson_18 : decode cX0_requirePerson 18 = .ok (.invokespecial 147, 3) := by decide +kernel
theorem dX0_requirePerson_21 : decode cX0_requirePerson 21 = .ok (.athrow, 1) := by decide +kernel
theorem dX0_requirePerson_22 : decode cX0_requirePerson 22 = .ok (.return_, 1) := by decide +kernel
theorem dX0_requireSlight_0 : decode cX0_requireSlight 0 = .ok (.iload_n 1, 1) := by decide +kernel
theorem dX0_requireSlight_1 : decode cX0_requireSlight 1 = .ok (.ifCond .lt 11, 3) := by decide +kernel
theorem dX0_requireSlight_4 : decode cX0_requireSlight 4 = .ok (.iload_n 1, 1) := by decide +kernel
theorem dX0_requireSlight_5 : decode cX0_requireSlight 5 = .ok (.aload_n 0, 1) := by decide +kernel
theorem dX0_requireSlight_6 : decode cX0_requireSlight 6 = .ok (.getfield 60, 3) := by decide +kernel
theorem dX0_requireSlight_9 : decode cX0_requireSlight 9 = .ok (.if_icmp .lt 13, 3) := by decide +kernel
theorem dX0_requireSlight_12 : decode cX0_requireSlight 12 = .ok (.new 143, 3) := by decide +kernel
theorem dX0_requireSlight_15 : decode cX0_requireSlight 15 = .ok (.dup, 1) := by decide +kernel
theorem dX0_requireSlight_16 : decode cX0_requireSlight 16 = .ok (.ldc 148, 2) := by decide +kernel
theorem dX0_requireSlight_18 : decode cX0_requireSlight 18 = .ok (.invokespecial 147, 3) := by decide +kernel
theorem dX0_requireSlight_21 : decode cX0_requireSlight 21 = .ok (.athrow, 1) := by decide +kernel
theorem dX0_requireSlight_22 : decode cX0_requireSlight 22 = .ok (.return_, 1) := by decide +kernel
set_option maxRecDepth 20000 in
theorem ggX0_requireOpen_X0_stateOf : GoodIn wsX0_requireOpen wsX0_stateOf := goodIn_ca (goodIn_r _ [7, 8, 9, 10, 11, 6, 12, 13, 14, 15, 16, 17, 18, 19, 20, 21, 22, 23, 24, 25, 26, 27] (by decide +kernel) (by decide +kernel)) (goodIn_sub (fun _ h => List.mem_cons_of_mem _ (List.mem_append_right _ h)) (by decide +kernel))
set_option maxRecDepth 20000 in
theorem gX0_requireOpen_X0_stateOf : GoodIn wsX0_requireOpen (wsV RX0 150 RX0 yX0_stateOf wsX0_stateOf) := goodIn_app (goodIn_of _ (by decide +kernel)) ggX0_requireOpen_X0_stateOf
theorem dX0_requireOpen_0 : decode cX0_requireOpen 0 = .ok (.aload_n 0, 1) := by decide +kernel
theorem dX0_requireOpen_1 : decode cX0_requireOpen 1 = .ok (.iload_n 1, 1) := by decide +kernel
theorem dX0_requireOpen_2 : decode cX0_requireOpen 2 = .ok (.invokevirtual 150, 3) := by decide +kernel
theorem dX0_requireOpen_5 : decode cX0_requireOpen 5 = .ok (.ifCond .eq 13, 3) := by decide +kernel
theorem dX0_requireOpen_8 : decode cX0_requireOpen 8 = .ok (.new 43, 3) := by decide +kernel
theorem dX0_requireOpen_11 : decode cX0_requireOpen 11 = .ok (.dup, 1) := by decide +kernel
theorem dX0_requireOpen_12 : decode cX0_requireOpen 12 = .ok (.ldc 153, 2) := by decide +kernel
theorem dX0_requireOpen_14 : decode cX0_requireOpen 14 = .ok (.invokespecial 47, 3) := by decide +kernel
theorem dX0_requireOpen_17 : decode cX0_requireOpen 17 = .ok (.athrow, 1) := by decide +kernel
theorem dX0_requireOpen_18 : decode cX0_requireOpen 18 = .ok (.return_, 1) := by decide +kernel
theorem dX0_requirePride_0 : decode cX0_requirePride 0 = .ok (.iload_n 0, 1) := by decide +kernel
theorem dX0_requirePride_1 : decode cX0_requirePride 1 = .ok (.ifCond .lt 9, 3) := by decide +kernel
theorem dX0_requirePride_4 : decode cX0_requirePride 4 = .ok (.iload_n 0, 1) := by decide +kernel
theorem dX0_requirePride_5 : decode cX0_requirePride 5 = .ok (.bipush 9, 2) := by decide +kernel
theorem dX0_requirePride_7 : decode cX0_requirePride 7 = .ok (.if_icmp .le 13, 3) := by decide +kernel
theorem dX0_requirePride_10 : decode cX0_requirePride 10 = .ok (.new 53, 3) := by decide +kernel
theorem dX0_requirePride_13 : decode cX0_requirePride 13 = .ok (.dup, 1) := by decide +kernel
theorem dX0_requirePride_14 : decode cX0_requirePride 14 = .ok (.ldc 155, 2) := by decide +kernel
theorem dX0_requirePride_16 : decode cX0_requirePride 16 = .ok (.invokespecial 57, 3) := by decide +kernel
theorem dX0_requirePride_19 : decode cX0_requirePride 19 = .ok (.athrow, 1) := by decide +kernel
theorem dX0_requirePride_20 : decode cX0_requirePride 20 = .ok (.return_, 1) := by decide +kernel
theorem dX0_requireWords_0 : decode cX0_requireWords 0 = .ok (.iload_n 0, 1) := by decide +kernel
theorem dX0_requireWords_1 : decode cX0_requireWords 1 = .ok (.iconst 1, 1) := by decide +kernel
theorem dX0_requireWords_2 : decode cX0_requireWords 2 = .ok (.if_icmp .lt 9, 3) := by decide +kernel
theorem dX0_requireWords_5 : decode cX0_requireWords 5 = .ok (.iload_n 0, 1) := by decide +kernel
theorem dX0_requireWords_6 : decode cX0_requireWords 6 = .ok (.bipush 20, 2) := by decide +kernel
theorem dX0_requireWords_8 : decode cX0_requireWords 8 = .ok (.if_icmp .le 13, 3) := by decide +kernel
theorem dX0_requireWords_11 : decode cX0_requireWords 11 = .ok (.new 53, 3) := by decide +kernel
theorem dX0_requireWords_14 : decode cX0_requireWords 14 = .ok (.dup, 1) := by decide +kernel
theorem dX0_requireWords_15 : decode cX0_requireWords 15 = .ok (.ldc 157, 2) := by decide +kernel
theorem dX0_requireWords_17 : decode cX0_requireWords 17 = .ok (.invokespecial 57, 3) := by decide +kernel
theorem dX0_requireWords_20 : decode cX0_requireWords 20 = .ok (.athrow, 1) := by decide +kernel
theorem dX0_requireWords_21 : decode cX0_requireWords 21 = .ok (.return_, 1) := by decide +kernel
theorem dX0_requireDays_0 : decode cX0_requireDays 0 = .ok (.iload_n 0, 1) := by decide +kernel
theorem dX0_requireDays_1 : decode cX0_requireDays 1 = .ok (.iconst 1, 1) := by decide +kernel
theorem dX0_requireDays_2 : decode cX0_requireDays 2 = .ok (.if_icmp .lt 9, 3) := by decide +kernel
theorem dX0_requireDays_5 : decode cX0_requireDays 5 = .ok (.iload_n 0, 1) := by decide +kernel
theorem dX0_requireDays_6 : decode cX0_requireDays 6 = .ok (.bipush 60, 2) := by decide +kernel
theorem dX0_requireDays_8 : decode cX0_requireDays 8 = .ok (.if_icmp .le 13, 3) := by decide +kernel
theorem dX0_requireDays_11 : decode cX0_requireDays 11 = .ok (.new 53, 3) := by decide +kernel
theorem dX0_requireDays_14 : decode cX0_requireDays 14 = .ok (.dup, 1) := by decide +kernel
theorem dX0_requireDays_15 : decode cX0_requireDays 15 = .ok (.ldc 159, 2) := by decide +kernel
theorem dX0_requireDays_17 : decode cX0_requireDays 17 = .ok (.invokespecial 57, 3) := by decide +kernel
theorem dX0_requireDays_20 : decode cX0_requireDays 20 = .ok (.athrow, 1) := by decide +kernel
theorem dX0_requireDays_21 : decode cX0_requireDays 21 = .ok (.return_, 1) := by decide +kernel
set_option maxRecDepth 20000 in
theorem ggX0_speakOf_X0_requireSlight : GoodIn wsX0_speakOf wsX0_requireSlight := goodIn_ca (goodIn_r _ [11, 12, 13, 14, 15, 16, 17, 18, 19, 20, 21, 22, 23, 24, 25, 26] (by decide +kernel) (by decide +kernel)) (goodIn_sub (fun _ h => List.mem_cons_of_mem _ (List.mem_append_right _ h)) (by decide +kernel))
set_option maxRecDepth 20000 in
theorem gX0_speakOf_X0_requireSlight : GoodIn wsX0_speakOf (wsV RX0 65 RX0 yX0_requireSlight wsX0_requireSlight) := goodIn_app (goodIn_of _ (by decide +kernel)) ggX0_speakOf_X0_requireSlight
theorem dX0_speakOf_0 : decode cX0_speakOf 0 = .ok (.aload_n 0, 1) := by decide +kernel
theorem dX0_speakOf_1 : decode cX0_speakOf 1 = .ok (.iload_n 1, 1) := by decide +kernel
theorem dX0_speakOf_2 : decode cX0_speakOf 2 = .ok (.invokevirtual 65, 3) := by decide +kernel
theorem dX0_speakOf_5 : decode cX0_speakOf 5 = .ok (.aload_n 0, 1) := by decide +kernel
theorem dX0_speakOf_6 : decode cX0_speakOf 6 = .ok (.getfield 23, 3) := by decide +kernel
theorem dX0_speakOf_9 : decode cX0_speakOf 9 = .ok (.iload_n 1, 1) := by decide +kernel
theorem dX0_speakOf_10 : decode cX0_speakOf 10 = .ok (.aload_n 0, 1) := by decide +kernel
theorem dX0_speakOf_11 : decode cX0_speakOf 11 = .ok (.getfield 23, 3) := by decide +kernel
theorem dX0_speakOf_14 : decode cX0_speakOf 14 = .ok (.iload_n 1, 1) := by decide +kernel
theorem dX0_speakOf_15 : decode cX0_speakOf 15 = .ok (.iaload, 1) := by decide +kernel
theorem dX0_speakOf_16 : decode cX0_speakOf 16 = .ok (.iconst 1, 1) := by decide +kernel
theorem dX0_speakOf_17 : decode cX0_speakOf 17 = .ok (.iadd, 1) := by decide +kernel
theorem dX0_speakOf_18 : decode cX0_speakOf 18 = .ok (.bipush 99, 2) := by decide +kernel
theorem dX0_speakOf_20 : decode cX0_speakOf 20 = .ok (.invokestatic 98, 3) := by decide +kernel
theorem dX0_speakOf_23 : decode cX0_speakOf 23 = .ok (.iastore, 1) := by decide +kernel
theorem dX0_speakOf_24 : decode cX0_speakOf 24 = .ok (.aload_n 0, 1) := by decide +kernel
theorem dX0_speakOf_25 : decode cX0_speakOf 25 = .ok (.getfield 32, 3) := by decide +kernel
theorem dX0_speakOf_28 : decode cX0_speakOf 28 = .ok (.iload_n 1, 1) := by decide +kernel
theorem dX0_speakOf_29 : decode cX0_speakOf 29 = .ok (.iconst 0, 1) := by decide +kernel
theorem dX0_speakOf_30 : decode cX0_speakOf 30 = .ok (.iastore, 1) := by decide +kernel
theorem dX0_speakOf_31 : decode cX0_speakOf 31 = .ok (.return_, 1) := by decide +kernel
set_option maxRecDepth 20000 in
theorem ggX0_lighten_X0_requireSlight : GoodIn wsX0_lighten wsX0_requireSlight := goodIn_ca (goodIn_r _ [6, 7, 8, 9, 15, 16, 17, 18, 19, 20, 21, 22, 23, 24, 25, 26] (by decide +kernel) (by decide +kernel)) (goodIn_sub (fun _ h => List.mem_cons_of_mem _ (List.mem_append_right _ h)) (by decide +kernel))
set_option maxRecDepth 20000 in
theorem gX0_lighten_X0_requireSlight : GoodIn wsX0_lighten (wsV RX0 65 RX0 yX0_requireSlight wsX0_requireSlight) := goodIn_app (goodIn_of _ (by decide +kernel)) ggX0_lighten_X0_requireSlight
set_option maxRecDepth 20000 in
theorem ggX0_lighten_X0_close : GoodIn wsX0_lighten wsX0_close := goodIn_ca (goodIn_r _ [13, 14, 1, 2, 3, 4, 5, 6, 7, 8, 9, 15, 16, 17, 18, 19, 20, 21, 22, 23, 24, 25, 26] (by decide +kernel) (by decide +kernel)) (goodIn_sub (fun _ h => List.mem_cons_of_mem _ (List.mem_append_right _ h)) (by decide +kernel))
set_option maxRecDepth 20000 in
theorem gX0_lighten_X0_close : GoodIn wsX0_lighten (wsV RX0 161 RX0 yX0_close wsX0_close) := goodIn_app (goodIn_of _ (by decide +kernel)) ggX0_lighten_X0_close
theorem dX0_lighten_0 : decode cX0_lighten 0 = .ok (.aload_n 0, 1) := by decide +kernel
theorem dX0_lighten_1 : decode cX0_lighten 1 = .ok (.iload_n 1, 1) := by decide +kernel
theorem dX0_lighten_2 : decode cX0_lighten 2 = .ok (.invokevirtual 65, 3) := by decide +kernel
theorem dX0_lighten_5 : decode cX0_lighten 5 = .ok (.aload_n 0, 1) := by decide +kernel
theorem dX0_lighten_6 : decode cX0_lighten 6 = .ok (.getfield 23, 3) := by decide +kernel
theorem dX0_lighten_9 : decode cX0_lighten 9 = .ok (.iload_n 1, 1) := by decide +kernel
theorem dX0_lighten_10 : decode cX0_lighten 10 = .ok (.iaload, 1) := by decide +kernel
theorem dX0_lighten_11 : decode cX0_lighten 11 = .ok (.iload_n 2, 1) := by decide +kernel
theorem dX0_lighten_12 : decode cX0_lighten 12 = .ok (.isub, 1) := by decide +kernel
theorem dX0_lighten_13 : decode cX0_lighten 13 = .ok (.istore 4, 2) := by decide +kernel
theorem dX0_lighten_15 : decode cX0_lighten 15 = .ok (.iload 4, 2) := by decide +kernel
theorem dX0_lighten_17 : decode cX0_lighten 17 = .ok (.ifCond .le 14, 3) := by decide +kernel
theorem dX0_lighten_20 : decode cX0_lighten 20 = .ok (.aload_n 0, 1) := by decide +kernel
theorem dX0_lighten_21 : decode cX0_lighten 21 = .ok (.getfield 23, 3) := by decide +kernel
theorem dX0_lighten_24 : decode cX0_lighten 24 = .ok (.iload_n 1, 1) := by decide +kernel
theorem dX0_lighten_25 : decode cX0_lighten 25 = .ok (.iload 4, 2) := by decide +kernel
theorem dX0_lighten_27 : decode cX0_lighten 27 = .ok (.iastore, 1) := by decide +kernel
theorem dX0_lighten_28 : decode cX0_lighten 28 = .ok (.goto 9, 3) := by decide +kernel
theorem dX0_lighten_31 : decode cX0_lighten 31 = .ok (.aload_n 0, 1) := by decide +kernel
theorem dX0_lighten_32 : decode cX0_lighten 32 = .ok (.iload_n 1, 1) := by decide +kernel
theorem dX0_lighten_33 : decode cX0_lighten 33 = .ok (.iload_n 3, 1) := by decide +kernel
theorem dX0_lighten_34 : decode cX0_lighten 34 = .ok (.invokevirtual 161, 3) := by decide +kernel
theorem dX0_lighten_37 : decode cX0_lighten 37 = .ok (.return_, 1) := by decide +kernel
set_option maxRecDepth 20000 in
theorem ggX0_close_X0_requireSlight : GoodIn wsX0_close wsX0_requireSlight := goodIn_ca (goodIn_r _ [7, 8, 9, 10, 11, 12, 13, 14, 15, 16, 17, 18, 19, 20, 21, 22] (by decide +kernel) (by decide +kernel)) (goodIn_sub (fun _ h => List.mem_cons_of_mem _ (List.mem_append_right _ h)) (by decide +kernel))
set_option maxRecDepth 20000 in
theorem gX0_close_X0_requireSlight : GoodIn wsX0_close (wsV RX0 65 RX0 yX0_requireSlight wsX0_requireSlight) := goodIn_app (goodIn_of _ (by decide +kernel)) ggX0_close_X0_requireSlight
theorem dX0_close_0 : decode cX0_close 0 = .ok (.aload_n 0, 1) := by decide +kernel
theorem dX0_close_1 : decode cX0_close 1 = .ok (.iload_n 1, 1) := by decide +kernel
theorem dX0_close_2 : decode cX0_close 2 = .ok (.invokevirtual 65, 3) := by decide +kernel
theorem dX0_close_5 : decode cX0_close 5 = .ok (.aload_n 0, 1) := by decide +kernel
theorem dX0_close_6 : decode cX0_close 6 = .ok (.getfield 26, 3) := by decide +kernel
theorem dX0_close_9 : decode cX0_close 9 = .ok (.iload_n 1, 1) := by decide +kernel
theorem dX0_close_10 : decode cX0_close 10 = .ok (.iload_n 2, 1) := by decide +kernel
theorem dX0_close_11 : decode cX0_close 11 = .ok (.iastore, 1) := by decide +kernel
theorem dX0_close_12 : decode cX0_close 12 = .ok (.aload_n 0, 1) := by decide +kernel
theorem dX0_close_13 : decode cX0_close 13 = .ok (.getfield 23, 3) := by decide +kernel
theorem dX0_close_16 : decode cX0_close 16 = .ok (.iload_n 1, 1) := by decide +kernel
theorem dX0_close_17 : decode cX0_close 17 = .ok (.iconst 0, 1) := by decide +kernel
theorem dX0_close_18 : decode cX0_close 18 = .ok (.iastore, 1) := by decide +kernel
theorem dX0_close_19 : decode cX0_close 19 = .ok (.return_, 1) := by decide +kernel
set_option maxRecDepth 20000 in
theorem ggX0_passOneDay_X0_bearOneDay : GoodIn wsX0_passOneDay wsX0_bearOneDay := goodIn_ca (goodIn_r _ [8, 9, 10, 11, 12, 13, 14, 7, 15, 16, 17, 1, 18, 19, 20, 21, 22, 23, 24, 25, 26, 27, 28, 29, 30, 31, 2, 32, 33, 34, 35, 36, 37, 38, 39, 40, 41, 42, 43] (by decide +kernel) (by decide +kernel)) (goodIn_sub (fun _ h => List.mem_cons_of_mem _ (List.mem_append_right _ h)) (by decide +kernel))
set_option maxRecDepth 20000 in
theorem gX0_passOneDay_X0_bearOneDay : GoodIn wsX0_passOneDay (wsV RX0 165 RX0 yX0_bearOneDay wsX0_bearOneDay) := goodIn_app (goodIn_of _ (by decide +kernel)) ggX0_passOneDay_X0_bearOneDay
theorem dX0_passOneDay_0 : decode cX0_passOneDay 0 = .ok (.iconst 0, 1) := by decide +kernel
theorem dX0_passOneDay_1 : decode cX0_passOneDay 1 = .ok (.istore_n 1, 1) := by decide +kernel
theorem dX0_passOneDay_2 : decode cX0_passOneDay 2 = .ok (.iconst 0, 1) := by decide +kernel
theorem dX0_passOneDay_3 : decode cX0_passOneDay 3 = .ok (.istore_n 2, 1) := by decide +kernel
theorem dX0_passOneDay_4 : decode cX0_passOneDay 4 = .ok (.iload_n 2, 1) := by decide +kernel
theorem dX0_passOneDay_5 : decode cX0_passOneDay 5 = .ok (.aload_n 0, 1) := by decide +kernel
theorem dX0_passOneDay_6 : decode cX0_passOneDay 6 = .ok (.getfield 60, 3) := by decide +kernel
theorem dX0_passOneDay_9 : decode cX0_passOneDay 9 = .ok (.if_icmp .ge 36, 3) := by decide +kernel
theorem dX0_passOneDay_12 : decode cX0_passOneDay 12 = .ok (.aload_n 0, 1) := by decide +kernel
theorem dX0_passOneDay_13 : decode cX0_passOneDay 13 = .ok (.getfield 26, 3) := by decide +kernel
theorem dX0_passOneDay_16 : decode cX0_passOneDay 16 = .ok (.iload_n 2, 1) := by decide +kernel
theorem dX0_passOneDay_17 : decode cX0_passOneDay 17 = .ok (.iaload, 1) := by decide +kernel
theorem dX0_passOneDay_18 : decode cX0_passOneDay 18 = .ok (.ifCond .ne 21, 3) := by decide +kernel
theorem dX0_passOneDay_21 : decode cX0_passOneDay 21 = .ok (.aload_n 0, 1) := by decide +kernel
theorem dX0_passOneDay_22 : decode cX0_passOneDay 22 = .ok (.iload_n 2, 1) := by decide +kernel
theorem dX0_passOneDay_23 : decode cX0_passOneDay 23 = .ok (.invokevirtual 165, 3) := by decide +kernel
theorem dX0_passOneDay_26 : decode cX0_passOneDay 26 = .ok (.aload_n 0, 1) := by decide +kernel
theorem dX0_passOneDay_27 : decode cX0_passOneDay 27 = .ok (.getfield 26, 3) := by decide +kernel
theorem dX0_passOneDay_30 : decode cX0_passOneDay 30 = .ok (.iload_n 2, 1) := by decide +kernel
theorem dX0_passOneDay_31 : decode cX0_passOneDay 31 = .ok (.iaload, 1) := by decide +kernel
theorem dX0_passOneDay_32 : decode cX0_passOneDay 32 = .ok (.iconst 2, 1) := by decide +kernel
theorem dX0_passOneDay_33 : decode cX0_passOneDay 33 = .ok (.if_icmp .ne 6, 3) := by decide +kernel
theorem dX0_passOneDay_36 : decode cX0_passOneDay 36 = .ok (.iinc 1 1, 3) := by decide +kernel
theorem dX0_passOneDay_39 : decode cX0_passOneDay 39 = .ok (.iinc 2 1, 3) := by decide +kernel
theorem dX0_passOneDay_42 : decode cX0_passOneDay 42 = .ok (.goto (-38), 3) := by decide +kernel
theorem dX0_passOneDay_45 : decode cX0_passOneDay 45 = .ok (.aload_n 0, 1) := by decide +kernel
theorem dX0_passOneDay_46 : decode cX0_passOneDay 46 = .ok (.dup, 1) := by decide +kernel
theorem dX0_passOneDay_47 : decode cX0_passOneDay 47 = .ok (.getfield 110, 3) := by decide +kernel
theorem dX0_passOneDay_50 : decode cX0_passOneDay 50 = .ok (.iconst 1, 1) := by decide +kernel
theorem dX0_passOneDay_51 : decode cX0_passOneDay 51 = .ok (.iadd, 1) := by decide +kernel
theorem dX0_passOneDay_52 : decode cX0_passOneDay 52 = .ok (.putfield 110, 3) := by decide +kernel
theorem dX0_passOneDay_55 : decode cX0_passOneDay 55 = .ok (.iload_n 1, 1) := by decide +kernel
theorem dX0_passOneDay_56 : decode cX0_passOneDay 56 = .ok (.ireturn, 1) := by decide +kernel
set_option maxRecDepth 20000 in
theorem ggX0_bearOneDay_X0_requireSlight : GoodIn wsX0_bearOneDay wsX0_requireSlight := goodIn_ca (goodIn_r _ [8, 9, 10, 11, 27, 28, 29, 30, 31, 32, 33, 34, 35, 36, 37, 38] (by decide +kernel) (by decide +kernel)) (goodIn_sub (fun _ h => List.mem_cons_of_mem _ (List.mem_append_right _ h)) (by decide +kernel))
set_option maxRecDepth 20000 in
theorem gX0_bearOneDay_X0_requireSlight : GoodIn wsX0_bearOneDay (wsV RX0 65 RX0 yX0_requireSlight wsX0_requireSlight) := goodIn_app (goodIn_of _ (by decide +kernel)) ggX0_bearOneDay_X0_requireSlight
set_option maxRecDepth 20000 in
theorem ggX0_bearOneDay_X0_weightWhenBorne : GoodIn wsX0_bearOneDay wsX0_weightWhenBorne := goodIn_r _ [14, 15, 16, 17, 18, 19, 20, 21] (by decide +kernel) (by decide +kernel)
set_option maxRecDepth 20000 in
theorem gX0_bearOneDay_X0_weightWhenBorne : GoodIn wsX0_bearOneDay (va_wsS RX0 124 yX0_weightWhenBorne wsX0_weightWhenBorne) := goodIn_app (goodIn_of _ (by decide +kernel)) ggX0_bearOneDay_X0_weightWhenBorne
set_option maxRecDepth 20000 in
theorem ggX0_bearOneDay_X0_close : GoodIn wsX0_bearOneDay wsX0_close := goodIn_ca (goodIn_r _ [25, 26, 3, 4, 5, 6, 7, 8, 9, 10, 11, 27, 28, 29, 30, 31, 32, 33, 34, 35, 36, 37, 38] (by decide +kernel) (by decide +kernel)) (goodIn_sub (fun _ h => List.mem_cons_of_mem _ (List.mem_append_right _ h)) (by decide +kernel))
set_option maxRecDepth 20000 in
theorem gX0_bearOneDay_X0_close : GoodIn wsX0_bearOneDay (wsV RX0 161 RX0 yX0_close wsX0_close) := goodIn_app (goodIn_of _ (by decide +kernel)) ggX0_bearOneDay_X0_close
theorem dX0_bearOneDay_0 : decode cX0_bearOneDay 0 = .ok (.aload_n 0, 1) := by decide +kernel
theorem dX0_bearOneDay_1 : decode cX0_bearOneDay 1 = .ok (.iload_n 1, 1) := by decide +kernel
theorem dX0_bearOneDay_2 : decode cX0_bearOneDay 2 = .ok (.invokevirtual 65, 3) := by decide +kernel
theorem dX0_bearOneDay_5 : decode cX0_bearOneDay 5 = .ok (.aload_n 0, 1) := by decide +kernel
theorem dX0_bearOneDay_6 : decode cX0_bearOneDay 6 = .ok (.getfield 29, 3) := by decide +kernel
theorem dX0_bearOneDay_9 : decode cX0_bearOneDay 9 = .ok (.iload_n 1, 1) := by decide +kernel
theorem dX0_bearOneDay_10 : decode cX0_bearOneDay 10 = .ok (.dup2, 1) := by decide +kernel
theorem dX0_bearOneDay_11 : decode cX0_bearOneDay 11 = .ok (.iaload, 1) := by decide +kernel
theorem dX0_bearOneDay_12 : decode cX0_bearOneDay 12 = .ok (.iconst 1, 1) := by decide +kernel
theorem dX0_bearOneDay_13 : decode cX0_bearOneDay 13 = .ok (.iadd, 1) := by decide +kernel
theorem dX0_bearOneDay_14 : decode cX0_bearOneDay 14 = .ok (.iastore, 1) := by decide +kernel
theorem dX0_bearOneDay_15 : decode cX0_bearOneDay 15 = .ok (.aload_n 0, 1) := by decide +kernel
theorem dX0_bearOneDay_16 : decode cX0_bearOneDay 16 = .ok (.getfield 32, 3) := by decide +kernel
theorem dX0_bearOneDay_19 : decode cX0_bearOneDay 19 = .ok (.iload_n 1, 1) := by decide +kernel
theorem dX0_bearOneDay_20 : decode cX0_bearOneDay 20 = .ok (.dup2, 1) := by decide +kernel
theorem dX0_bearOneDay_21 : decode cX0_bearOneDay 21 = .ok (.iaload, 1) := by decide +kernel
theorem dX0_bearOneDay_22 : decode cX0_bearOneDay 22 = .ok (.iconst 1, 1) := by decide +kernel
theorem dX0_bearOneDay_23 : decode cX0_bearOneDay 23 = .ok (.iadd, 1) := by decide +kernel
theorem dX0_bearOneDay_24 : decode cX0_bearOneDay 24 = .ok (.iastore, 1) := by decide +kernel
theorem dX0_bearOneDay_25 : decode cX0_bearOneDay 25 = .ok (.aload_n 0, 1) := by decide +kernel
theorem dX0_bearOneDay_26 : decode cX0_bearOneDay 26 = .ok (.getfield 23, 3) := by decide +kernel
theorem dX0_bearOneDay_29 : decode cX0_bearOneDay 29 = .ok (.iload_n 1, 1) := by decide +kernel
theorem dX0_bearOneDay_30 : decode cX0_bearOneDay 30 = .ok (.aload_n 0, 1) := by decide +kernel
theorem dX0_bearOneDay_31 : decode cX0_bearOneDay 31 = .ok (.getfield 23, 3) := by decide +kernel
theorem dX0_bearOneDay_34 : decode cX0_bearOneDay 34 = .ok (.iload_n 1, 1) := by decide +kernel
theorem dX0_bearOneDay_35 : decode cX0_bearOneDay 35 = .ok (.iaload, 1) := by decide +kernel
theorem dX0_bearOneDay_36 : decode cX0_bearOneDay 36 = .ok (.aload_n 0, 1) := by decide +kernel
theorem dX0_bearOneDay_37 : decode cX0_bearOneDay 37 = .ok (.getfield 29, 3) := by decide +kernel
theorem dX0_bearOneDay_40 : decode cX0_bearOneDay 40 = .ok (.iload_n 1, 1) := by decide +kernel
theorem dX0_bearOneDay_41 : decode cX0_bearOneDay 41 = .ok (.iaload, 1) := by decide +kernel
theorem dX0_bearOneDay_42 : decode cX0_bearOneDay 42 = .ok (.invokestatic 124, 3) := by decide +kernel
theorem dX0_bearOneDay_45 : decode cX0_bearOneDay 45 = .ok (.iastore, 1) := by decide +kernel
theorem dX0_bearOneDay_46 : decode cX0_bearOneDay 46 = .ok (.aload_n 0, 1) := by decide +kernel
theorem dX0_bearOneDay_47 : decode cX0_bearOneDay 47 = .ok (.getfield 32, 3) := by decide +kernel
theorem dX0_bearOneDay_50 : decode cX0_bearOneDay 50 = .ok (.iload_n 1, 1) := by decide +kernel
theorem dX0_bearOneDay_51 : decode cX0_bearOneDay 51 = .ok (.iaload, 1) := by decide +kernel
theorem dX0_bearOneDay_52 : decode cX0_bearOneDay 52 = .ok (.bipush 30, 2) := by decide +kernel
theorem dX0_bearOneDay_54 : decode cX0_bearOneDay 54 = .ok (.if_icmp .lt 9, 3) := by decide +kernel
theorem dX0_bearOneDay_57 : decode cX0_bearOneDay 57 = .ok (.aload_n 0, 1) := by decide +kernel
theorem dX0_bearOneDay_58 : decode cX0_bearOneDay 58 = .ok (.iload_n 1, 1) := by decide +kernel
theorem dX0_bearOneDay_59 : decode cX0_bearOneDay 59 = .ok (.iconst 2, 1) := by decide +kernel
theorem dX0_bearOneDay_60 : decode cX0_bearOneDay 60 = .ok (.invokevirtual 161, 3) := by decide +kernel
theorem dX0_bearOneDay_63 : decode cX0_bearOneDay 63 = .ok (.return_, 1) := by decide +kernel
theorem dX0_weightWhenBorne_0 : decode cX0_weightWhenBorne 0 = .ok (.iload_n 1, 1) := by decide +kernel
theorem dX0_weightWhenBorne_1 : decode cX0_weightWhenBorne 1 = .ok (.iconst 5, 1) := by decide +kernel
theorem dX0_weightWhenBorne_2 : decode cX0_weightWhenBorne 2 = .ok (.irem, 1) := by decide +kernel
theorem dX0_weightWhenBorne_3 : decode cX0_weightWhenBorne 3 = .ok (.ifCond .eq 5, 3) := by decide +kernel
theorem dX0_weightWhenBorne_6 : decode cX0_weightWhenBorne 6 = .ok (.iload_n 0, 1) := by decide +kernel
theorem dX0_weightWhenBorne_7 : decode cX0_weightWhenBorne 7 = .ok (.ireturn, 1) := by decide +kernel
theorem dX0_weightWhenBorne_8 : decode cX0_weightWhenBorne 8 = .ok (.iload_n 0, 1) := by decide +kernel
theorem dX0_weightWhenBorne_9 : decode cX0_weightWhenBorne 9 = .ok (.iconst 1, 1) := by decide +kernel
theorem dX0_weightWhenBorne_10 : decode cX0_weightWhenBorne 10 = .ok (.iload_n 0, 1) := by decide +kernel
theorem dX0_weightWhenBorne_11 : decode cX0_weightWhenBorne 11 = .ok (.bipush 10, 2) := by decide +kernel
theorem dX0_weightWhenBorne_13 : decode cX0_weightWhenBorne 13 = .ok (.idiv, 1) := by decide +kernel
theorem dX0_weightWhenBorne_14 : decode cX0_weightWhenBorne 14 = .ok (.invokestatic 121, 3) := by decide +kernel
theorem dX0_weightWhenBorne_17 : decode cX0_weightWhenBorne 17 = .ok (.iadd, 1) := by decide +kernel
theorem dX0_weightWhenBorne_18 : decode cX0_weightWhenBorne 18 = .ok (.bipush 99, 2) := by decide +kernel
theorem dX0_weightWhenBorne_20 : decode cX0_weightWhenBorne 20 = .ok (.invokestatic 98, 3) := by decide +kernel
theorem dX0_weightWhenBorne_23 : decode cX0_weightWhenBorne 23 = .ok (.ireturn, 1) := by decide +kernel
set_option maxRecDepth 20000 in
theorem ggX0_worthOf_X0_witnessesFor : GoodIn wsX0_worthOf wsX0_witnessesFor := goodIn_ca (goodIn_r _ [5, 6, 7, 8, 9, 10, 11, 12, 4, 13, 14, 15, 16, 17, 18, 19, 20, 21, 22, 23, 24, 25, 26, 27, 28] (by decide +kernel) (by decide +kernel)) (goodIn_sub (fun _ h => List.mem_cons_of_mem _ (List.mem_append_right _ h)) (by decide +kernel))
set_option maxRecDepth 20000 in
theorem gX0_worthOf_X0_witnessesFor : GoodIn wsX0_worthOf (wsV RX0 168 RX0 yX0_witnessesFor wsX0_witnessesFor) := goodIn_app (goodIn_of _ (by decide +kernel)) ggX0_worthOf_X0_witnessesFor
theorem dX0_worthOf_0 : decode cX0_worthOf 0 = .ok (.iload_n 2, 1) := by decide +kernel
theorem dX0_worthOf_1 : decode cX0_worthOf 1 = .ok (.iconst 2, 1) := by decide +kernel
theorem dX0_worthOf_2 : decode cX0_worthOf 2 = .ok (.aload_n 0, 1) := by decide +kernel
theorem dX0_worthOf_3 : decode cX0_worthOf 3 = .ok (.iload_n 1, 1) := by decide +kernel
theorem dX0_worthOf_4 : decode cX0_worthOf 4 = .ok (.invokevirtual 168, 3) := by decide +kernel
theorem dX0_worthOf_7 : decode cX0_worthOf 7 = .ok (.imul, 1) := by decide +kernel
theorem dX0_worthOf_8 : decode cX0_worthOf 8 = .ok (.iadd, 1) := by decide +kernel
theorem dX0_worthOf_9 : decode cX0_worthOf 9 = .ok (.ireturn, 1) := by decide +kernel
set_option maxRecDepth 20000 in
theorem ggX0_leastWorthHeard_X0_offendedOf : GoodIn wsX0_leastWorthHeard wsX0_offendedOf := goodIn_ca (goodIn_r _ [9, 10, 11, 12, 13, 8, 14, 15, 16, 17, 33, 34, 35, 36, 37, 38, 39, 40, 41, 42, 43, 44] (by decide +kernel) (by decide +kernel)) (goodIn_sub (fun _ h => List.mem_cons_of_mem _ (List.mem_append_right _ h)) (by decide +kernel))
set_option maxRecDepth 20000 in
theorem gX0_leastWorthHeard_X0_offendedOf : GoodIn wsX0_leastWorthHeard (wsV RX0 171 RX0 yX0_offendedOf wsX0_offendedOf) := goodIn_app (goodIn_of _ (by decide +kernel)) ggX0_leastWorthHeard_X0_offendedOf
set_option maxRecDepth 20000 in
theorem ggX0_leastWorthHeard_X0_prideOf : GoodIn wsX0_leastWorthHeard wsX0_prideOf := goodIn_ca (goodIn_r _ [21, 22, 23, 24, 25, 8, 26, 15, 16, 27, 33, 34, 35, 36, 37, 38, 39, 40, 41, 42, 43, 44] (by decide +kernel) (by decide +kernel)) (goodIn_sub (fun _ h => List.mem_cons_of_mem _ (List.mem_append_right _ h)) (by decide +kernel))
set_option maxRecDepth 20000 in
theorem gX0_leastWorthHeard_X0_prideOf : GoodIn wsX0_leastWorthHeard (wsV RX0 174 RX0 yX0_prideOf wsX0_prideOf) := goodIn_app (goodIn_of _ (by decide +kernel)) ggX0_leastWorthHeard_X0_prideOf
set_option maxRecDepth 20000 in
theorem ggX0_leastWorthHeard_X0_weightOf : GoodIn wsX0_leastWorthHeard wsX0_weightOf := goodIn_ca (goodIn_r _ [31, 32, 11, 12, 13, 8, 14, 15, 16, 17, 33, 34, 35, 36, 37, 38, 39, 40, 41, 42, 43, 44] (by decide +kernel) (by decide +kernel)) (goodIn_sub (fun _ h => List.mem_cons_of_mem _ (List.mem_append_right _ h)) (by decide +kernel))
set_option maxRecDepth 20000 in
theorem gX0_leastWorthHeard_X0_weightOf : GoodIn wsX0_leastWorthHeard (wsV RX0 177 RX0 yX0_weightOf wsX0_weightOf) := goodIn_app (goodIn_of _ (by decide +kernel)) ggX0_leastWorthHeard_X0_weightOf
theorem dX0_leastWorthHeard_0 : decode cX0_leastWorthHeard 0 = .ok (.aload_n 0, 1) := by decide +kernel
theorem dX0_leastWorthHeard_1 : decode cX0_leastWorthHeard 1 = .ok (.aload_n 0, 1) := by decide +kernel
theorem dX0_leastWorthHeard_2 : decode cX0_leastWorthHeard 2 = .ok (.iload_n 1, 1) := by decide +kernel
theorem dX0_leastWorthHeard_3 : decode cX0_leastWorthHeard 3 = .ok (.invokevirtual 171, 3) := by decide +kernel
theorem dX0_leastWorthHeard_6 : decode cX0_leastWorthHeard 6 = .ok (.invokevirtual 174, 3) := by decide +kernel
theorem dX0_leastWorthHeard_9 : decode cX0_leastWorthHeard 9 = .ok (.aload_n 0, 1) := by decide +kernel
theorem dX0_leastWorthHeard_10 : decode cX0_leastWorthHeard 10 = .ok (.iload_n 1, 1) := by decide +kernel
theorem dX0_leastWorthHeard_11 : decode cX0_leastWorthHeard 11 = .ok (.invokevirtual 177, 3) := by decide +kernel
theorem dX0_leastWorthHeard_14 : decode cX0_leastWorthHeard 14 = .ok (.iconst 4, 1) := by decide +kernel
theorem dX0_leastWorthHeard_15 : decode cX0_leastWorthHeard 15 = .ok (.idiv, 1) := by decide +kernel
theorem dX0_leastWorthHeard_16 : decode cX0_leastWorthHeard 16 = .ok (.invokestatic 121, 3) := by decide +kernel
theorem dX0_leastWorthHeard_19 : decode cX0_leastWorthHeard 19 = .ok (.ireturn, 1) := by decide +kernel
set_option maxRecDepth 20000 in
theorem ggX0_areAgainstEachOther_X0_offenderOf : GoodIn wsX0_areAgainstEachOther wsX0_offenderOf := goodIn_ca (goodIn_r _ [5, 6, 7, 8, 9, 4, 10, 11, 12, 13, 19, 20, 21, 22, 23, 24, 25, 26, 27, 28, 29, 30] (by decide +kernel) (by decide +kernel)) (goodIn_sub (fun _ h => List.mem_cons_of_mem _ (List.mem_append_right _ h)) (by decide +kernel))
set_option maxRecDepth 20000 in
theorem gX0_areAgainstEachOther_X0_offenderOf : GoodIn wsX0_areAgainstEachOther (wsV RX0 180 RX0 yX0_offenderOf wsX0_offenderOf) := goodIn_app (goodIn_of _ (by decide +kernel)) ggX0_areAgainstEachOther_X0_offenderOf
set_option maxRecDepth 20000 in
theorem ggX0_areAgainstEachOther_X0_offendedOf : GoodIn wsX0_areAgainstEachOther wsX0_offendedOf := goodIn_ca (goodIn_r _ [17, 18, 7, 8, 9, 4, 10, 11, 12, 13, 19, 20, 21, 22, 23, 24, 25, 26, 27, 28, 29, 30] (by decide +kernel) (by decide +kernel)) (goodIn_sub (fun _ h => List.mem_cons_of_mem _ (List.mem_append_right _ h)) (by decide +kernel))
set_option maxRecDepth 20000 in
theorem gX0_areAgainstEachOther_X0_offendedOf : GoodIn wsX0_areAgainstEachOther (wsV RX0 171 RX0 yX0_offendedOf wsX0_offendedOf) := goodIn_app (goodIn_of _ (by decide +kernel)) ggX0_areAgainstEachOther_X0_offendedOf
theorem dX0_areAgainstEachOther_0 : decode cX0_areAgainstEachOther 0 = .ok (.aload_n 0, 1) := by decide +kernel
theorem dX0_areAgainstEachOther_1 : decode cX0_areAgainstEachOther 1 = .ok (.iload_n 1, 1) := by decide +kernel
theorem dX0_areAgainstEachOther_2 : decode cX0_areAgainstEachOther 2 = .ok (.invokevirtual 180, 3) := by decide +kernel
theorem dX0_areAgainstEachOther_5 : decode cX0_areAgainstEachOther 5 = .ok (.aload_n 0, 1) := by decide +kernel
theorem dX0_areAgainstEachOther_6 : decode cX0_areAgainstEachOther 6 = .ok (.iload_n 2, 1) := by decide +kernel
theorem dX0_areAgainstEachOther_7 : decode cX0_areAgainstEachOther 7 = .ok (.invokevirtual 171, 3) := by decide +kernel
theorem dX0_areAgainstEachOther_10 : decode cX0_areAgainstEachOther 10 = .ok (.if_icmp .ne 20, 3) := by decide +kernel
theorem dX0_areAgainstEachOther_13 : decode cX0_areAgainstEachOther 13 = .ok (.aload_n 0, 1) := by decide +kernel
theorem dX0_areAgainstEachOther_14 : decode cX0_areAgainstEachOther 14 = .ok (.iload_n 2, 1) := by decide +kernel
theorem dX0_areAgainstEachOther_15 : decode cX0_areAgainstEachOther 15 = .ok (.invokevirtual 180, 3) := by decide +kernel
theorem dX0_areAgainstEachOther_18 : decode cX0_areAgainstEachOther 18 = .ok (.aload_n 0, 1) := by decide +kernel
theorem dX0_areAgainstEachOther_19 : decode cX0_areAgainstEachOther 19 = .ok (.iload_n 1, 1) := by decide +kernel
theorem dX0_areAgainstEachOther_20 : decode cX0_areAgainstEachOther 20 = .ok (.invokevirtual 171, 3) := by decide +kernel
theorem dX0_areAgainstEachOther_23 : decode cX0_areAgainstEachOther 23 = .ok (.if_icmp .ne 7, 3) := by decide +kernel
theorem dX0_areAgainstEachOther_26 : decode cX0_areAgainstEachOther 26 = .ok (.iconst 1, 1) := by decide +kernel
theorem dX0_areAgainstEachOther_27 : decode cX0_areAgainstEachOther 27 = .ok (.goto 4, 3) := by decide +kernel
theorem dX0_areAgainstEachOther_30 : decode cX0_areAgainstEachOther 30 = .ok (.iconst 0, 1) := by decide +kernel
theorem dX0_areAgainstEachOther_31 : decode cX0_areAgainstEachOther 31 = .ok (.ireturn, 1) := by decide +kernel
theorem dX0_weightBetween_0 : decode cX0_weightBetween 0 = .ok (.iconst 0, 1) := by decide +kernel
theorem dX0_weightBetween_1 : decode cX0_weightBetween 1 = .ok (.istore_n 3, 1) := by decide +kernel
theorem dX0_weightBetween_2 : decode cX0_weightBetween 2 = .ok (.iconst 0, 1) := by decide +kernel
theorem dX0_weightBetween_3 : decode cX0_weightBetween 3 = .ok (.istore 4, 2) := by decide +kernel
theorem dX0_weightBetween_5 : decode cX0_weightBetween 5 = .ok (.iload 4, 2) := by decide +kernel
theorem dX0_weightBetween_7 : decode cX0_weightBetween 7 = .ok (.aload_n 0, 1) := by decide +kernel
theorem dX0_weightBetween_8 : decode cX0_weightBetween 8 = .ok (.getfield 60, 3) := by decide +kernel
theorem dX0_weightBetween_11 : decode cX0_weightBetween 11 = .ok (.if_icmp .ge 51, 3) := by decide +kernel
theorem dX0_weightBetween_14 : decode cX0_weightBetween 14 = .ok (.aload_n 0, 1) := by decide +kernel
theorem dX0_weightBetween_15 : decode cX0_weightBetween 15 = .ok (.getfield 26, 3) := by decide +kernel
theorem dX0_weightBetween_18 : decode cX0_weightBetween 18 = .ok (.iload 4, 2) := by decide +kernel
theorem dX0_weightBetween_20 : decode cX0_weightBetween 20 = .ok (.iaload, 1) := by decide +kernel
theorem dX0_weightBetween_21 : decode cX0_weightBetween 21 = .ok (.ifCond .ne 35, 3) := by decide +kernel
theorem dX0_weightBetween_24 : decode cX0_weightBetween 24 = .ok (.aload_n 0, 1) := by decide +kernel
theorem dX0_weightBetween_25 : decode cX0_weightBetween 25 = .ok (.getfield 17, 3) := by decide +kernel
theorem dX0_weightBetween_28 : decode cX0_weightBetween 28 = .ok (.iload 4, 2) := by decide +kernel
theorem dX0_weightBetween_30 : decode cX0_weightBetween 30 = .ok (.iaload, 1) := by decide +kernel
theorem dX0_weightBetween_31 : decode cX0_weightBetween 31 = .ok (.iload_n 1, 1) := by decide +kernel
theorem dX0_weightBetween_32 : decode cX0_weightBetween 32 = .ok (.if_icmp .ne 24, 3) := by decide +kernel
theorem dX0_weightBetween_35 : decode cX0_weightBetween 35 = .ok (.aload_n 0, 1) := by decide +kernel
theorem dX0_weightBetween_36 : decode cX0_weightBetween 36 = .ok (.getfield 20, 3) := by decide +kernel
theorem dX0_weightBetween_39 : decode cX0_weightBetween 39 = .ok (.iload 4, 2) := by decide +kernel
theorem dX0_weightBetween_41 : decode cX0_weightBetween 41 = .ok (.iaload, 1) := by decide +kernel
theorem dX0_weightBetween_42 : decode cX0_weightBetween 42 = .ok (.iload_n 2, 1) := by decide +kernel
theorem dX0_weightBetween_43 : decode cX0_weightBetween 43 = .ok (.if_icmp .ne 13, 3) := by decide +kernel
theorem dX0_weightBetween_46 : decode cX0_weightBetween 46 = .ok (.iload_n 3, 1) := by decide +kernel
theorem dX0_weightBetween_47 : decode cX0_weightBetween 47 = .ok (.aload_n 0, 1) := by decide +kernel
theorem dX0_weightBetween_48 : decode cX0_weightBetween 48 = .ok (.getfield 23, 3) := by decide +kernel
theorem dX0_weightBetween_51 : decode cX0_weightBetween 51 = .ok (.iload 4, 2) := by decide +kernel
theorem dX0_weightBetween_53 : decode cX0_weightBetween 53 = .ok (.iaload, 1) := by decide +kernel
theorem dX0_weightBetween_54 : decode cX0_weightBetween 54 = .ok (.iadd, 1) := by decide +kernel
theorem dX0_weightBetween_55 : decode cX0_weightBetween 55 = .ok (.istore_n 3, 1) := by decide +kernel
theorem dX0_weightBetween_56 : decode cX0_weightBetween 56 = .ok (.iinc 4 1, 3) := by decide +kernel
theorem dX0_weightBetween_59 : decode cX0_weightBetween 59 = .ok (.goto (-54), 3) := by decide +kernel
theorem dX0_weightBetween_62 : decode cX0_weightBetween 62 = .ok (.iload_n 3, 1) := by decide +kernel
theorem dX0_weightBetween_63 : decode cX0_weightBetween 63 = .ok (.ireturn, 1) := by decide +kernel
theorem dX0_digestWith_0 : decode cX0_digestWith 0 = .ok (.lload_n 0, 1) := by decide +kernel
theorem dX0_digestWith_1 : decode cX0_digestWith 1 = .ok (.ldc2_w 183, 3) := by decide +kernel
theorem dX0_digestWith_4 : decode cX0_digestWith 4 = .ok (.lmul, 1) := by decide +kernel
theorem dX0_digestWith_5 : decode cX0_digestWith 5 = .ok (.lload_n 2, 1) := by decide +kernel
theorem dX0_digestWith_6 : decode cX0_digestWith 6 = .ok (.ladd, 1) := by decide +kernel
theorem dX0_digestWith_7 : decode cX0_digestWith 7 = .ok (.lreturn, 1) := by decide +kernel
set_option maxRecDepth 20000 in
theorem ggX0_digestOfTheWhole_X0_day : GoodIn wsX0_digestOfTheWhole wsX0_day := goodIn_r _ [5, 6, 79, 80, 81, 82, 83, 84, 85, 86, 87, 88, 89, 90] (by decide +kernel) (by decide +kernel)
set_option maxRecDepth 20000 in
theorem gX0_digestOfTheWhole_X0_day : GoodIn wsX0_digestOfTheWhole (wsV RX0 185 RX0 yX0_day wsX0_day) := goodIn_app (goodIn_of _ (by decide +kernel)) ggX0_digestOfTheWhole_X0_day
set_option maxRecDepth 20000 in
theorem ggX0_digestOfTheWhole_X0_digestWith : GoodIn wsX0_digestOfTheWhole wsX0_digestWith := goodIn_r _ [9, 10] (by decide +kernel) (by decide +kernel)
set_option maxRecDepth 20000 in
theorem gX0_digestOfTheWhole_X0_digestWith : GoodIn wsX0_digestOfTheWhole (va_wsS RX0 188 yX0_digestWith wsX0_digestWith) := goodIn_app (goodIn_of _ (by decide +kernel)) ggX0_digestOfTheWhole_X0_digestWith
set_option maxRecDepth 20000 in
theorem ggX0_digestOfTheWhole_X0_persons : GoodIn wsX0_digestOfTheWhole wsX0_persons := goodIn_r _ [14, 15, 79, 80, 81, 82, 83, 84, 85, 86, 87, 88, 89, 90] (by decide +kernel) (by decide +kernel)
set_option maxRecDepth 20000 in
theorem gX0_digestOfTheWhole_X0_persons : GoodIn wsX0_digestOfTheWhole (wsV RX0 192 RX0 yX0_persons wsX0_persons) := goodIn_app (goodIn_of _ (by decide +kernel)) ggX0_digestOfTheWhole_X0_persons
set_option maxRecDepth 20000 in
theorem ggX0_digestOfTheWhole_X0_slights : GoodIn wsX0_digestOfTheWhole wsX0_slights := goodIn_r _ [19, 20, 79, 80, 81, 82, 83, 84, 85, 86, 87, 88, 89, 90] (by decide +kernel) (by decide +kernel)
set_option maxRecDepth 20000 in
theorem gX0_digestOfTheWhole_X0_slights : GoodIn wsX0_digestOfTheWhole (wsV RX0 195 RX0 yX0_slights wsX0_slights) := goodIn_app (goodIn_of _ (by decide +kernel)) ggX0_digestOfTheWhole_X0_slights
set_option maxRecDepth 20000 in
theorem ggX0_digestOfTheWhole_X0_inHall : GoodIn wsX0_digestOfTheWhole wsX0_inHall := goodIn_r _ [24, 15, 25, 79, 80, 81, 82, 83, 84, 85, 86, 87, 88, 89, 90] (by decide +kernel) (by decide +kernel)
set_option maxRecDepth 20000 in
theorem gX0_digestOfTheWhole_X0_inHall : GoodIn wsX0_digestOfTheWhole (wsV RX0 198 RX0 yX0_inHall wsX0_inHall) := goodIn_app (goodIn_of _ (by decide +kernel)) ggX0_digestOfTheWhole_X0_inHall
set_option maxRecDepth 20000 in
theorem ggX0_digestOfTheWhole_X0_scorned : GoodIn wsX0_digestOfTheWhole wsX0_scorned := goodIn_r _ [29, 30, 79, 80, 81, 82, 83, 84, 85, 86, 87, 88, 89, 90] (by decide +kernel) (by decide +kernel)
set_option maxRecDepth 20000 in
theorem gX0_digestOfTheWhole_X0_scorned : GoodIn wsX0_digestOfTheWhole (wsV RX0 201 RX0 yX0_scorned wsX0_scorned) := goodIn_app (goodIn_of _ (by decide +kernel)) ggX0_digestOfTheWhole_X0_scorned
set_option maxRecDepth 20000 in
theorem ggX0_digestOfTheWhole_X0_sorest : GoodIn wsX0_digestOfTheWhole wsX0_sorest := goodIn_ca (goodIn_r _ [34, 15, 35, 36, 37, 4, 38, 20, 39, 40, 41, 42, 43, 44, 45, 46, 47, 79, 80, 81, 82, 83, 84, 85, 86, 87, 88, 89, 90] (by decide +kernel) (by decide +kernel)) (goodIn_sub (fun _ h => List.mem_cons_of_mem _ (List.mem_append_left _ (List.mem_append_right _ h))) (by decide +kernel))
set_option maxRecDepth 20000 in
theorem gX0_digestOfTheWhole_X0_sorest : GoodIn wsX0_digestOfTheWhole (wsV RX0 204 RX0 yX0_sorest wsX0_sorest) := goodIn_app (goodIn_of _ (by decide +kernel)) ggX0_digestOfTheWhole_X0_sorest
set_option maxRecDepth 20000 in
theorem ggX0_digestOfTheWhole_X0_inState : GoodIn wsX0_digestOfTheWhole wsX0_inState := goodIn_ca (goodIn_r _ [51, 52, 53, 20, 39, 79, 80, 81, 82, 83, 84, 85, 86, 87, 88, 89, 90] (by decide +kernel) (by decide +kernel)) (goodIn_sub (fun _ h => List.mem_cons_of_mem _ (List.mem_append_right _ h)) (by decide +kernel))
set_option maxRecDepth 20000 in
theorem gX0_digestOfTheWhole_X0_inState : GoodIn wsX0_digestOfTheWhole (wsV RX0 207 RX0 yX0_inState wsX0_inState) := goodIn_app (goodIn_of _ (by decide +kernel)) ggX0_digestOfTheWhole_X0_inState
set_option maxRecDepth 20000 in
theorem ggX0_digestOfTheWhole_X0_heaviest : GoodIn wsX0_digestOfTheWhole wsX0_heaviest := goodIn_r _ [57, 20, 39, 41, 79, 80, 81, 82, 83, 84, 85, 86, 87, 88, 89, 90] (by decide +kernel) (by decide +kernel)
set_option maxRecDepth 20000 in
theorem gX0_digestOfTheWhole_X0_heaviest : GoodIn wsX0_digestOfTheWhole (wsV RX0 210 RX0 yX0_heaviest wsX0_heaviest) := goodIn_app (goodIn_of _ (by decide +kernel)) ggX0_digestOfTheWhole_X0_heaviest
set_option maxRecDepth 20000 in
theorem ggX0_digestOfTheWhole_X0_pairsToSetOff : GoodIn wsX0_digestOfTheWhole wsX0_pairsToSetOff := goodIn_ca (goodIn_r _ [61, 20, 39, 62, 63, 64, 4, 65, 66, 67, 68, 69, 70, 71, 72, 73, 74, 46, 47, 75, 76, 77, 78, 40, 79, 80, 81, 82, 83, 84, 85, 86, 87, 88, 89, 90] (by decide +kernel) (by decide +kernel)) (goodIn_sub (fun _ h => List.mem_cons_of_mem _ (List.mem_append_left _ (List.mem_append_right _ h))) (by decide +kernel))
set_option maxRecDepth 20000 in
theorem gX0_digestOfTheWhole_X0_pairsToSetOff : GoodIn wsX0_digestOfTheWhole (wsV RX0 213 RX0 yX0_pairsToSetOff wsX0_pairsToSetOff) := goodIn_app (goodIn_of _ (by decide +kernel)) ggX0_digestOfTheWhole_X0_pairsToSetOff
theorem dX0_digestOfTheWhole_0 : decode cX0_digestOfTheWhole 0 = .ok (.lload_n 1, 1) := by decide +kernel
theorem dX0_digestOfTheWhole_1 : decode cX0_digestOfTheWhole 1 = .ok (.aload_n 0, 1) := by decide +kernel
theorem dX0_digestOfTheWhole_2 : decode cX0_digestOfTheWhole 2 = .ok (.invokevirtual 185, 3) := by decide +kernel
theorem dX0_digestOfTheWhole_5 : decode cX0_digestOfTheWhole 5 = .ok (.i2l, 1) := by decide +kernel
theorem dX0_digestOfTheWhole_6 : decode cX0_digestOfTheWhole 6 = .ok (.invokestatic 188, 3) := by decide +kernel
theorem dX0_digestOfTheWhole_9 : decode cX0_digestOfTheWhole 9 = .ok (.lstore_n 3, 1) := by decide +kernel
theorem dX0_digestOfTheWhole_10 : decode cX0_digestOfTheWhole 10 = .ok (.lload_n 3, 1) := by decide +kernel
theorem dX0_digestOfTheWhole_11 : decode cX0_digestOfTheWhole 11 = .ok (.aload_n 0, 1) := by decide +kernel
theorem dX0_digestOfTheWhole_12 : decode cX0_digestOfTheWhole 12 = .ok (.invokevirtual 192, 3) := by decide +kernel
theorem dX0_digestOfTheWhole_15 : decode cX0_digestOfTheWhole 15 = .ok (.i2l, 1) := by decide +kernel
theorem dX0_digestOfTheWhole_16 : decode cX0_digestOfTheWhole 16 = .ok (.invokestatic 188, 3) := by decide +kernel
theorem dX0_digestOfTheWhole_19 : decode cX0_digestOfTheWhole 19 = .ok (.lstore_n 3, 1) := by decide +kernel
theorem dX0_digestOfTheWhole_20 : decode cX0_digestOfTheWhole 20 = .ok (.lload_n 3, 1) := by decide +kernel
theorem dX0_digestOfTheWhole_21 : decode cX0_digestOfTheWhole 21 = .ok (.aload_n 0, 1) := by decide +kernel
theorem dX0_digestOfTheWhole_22 : decode cX0_digestOfTheWhole 22 = .ok (.invokevirtual 195, 3) := by decide +kernel
theorem dX0_digestOfTheWhole_25 : decode cX0_digestOfTheWhole 25 = .ok (.i2l, 1) := by decide +kernel
theorem dX0_digestOfTheWhole_26 : decode cX0_digestOfTheWhole 26 = .ok (.invokestatic 188, 3) := by decide +kernel
theorem dX0_digestOfTheWhole_29 : decode cX0_digestOfTheWhole 29 = .ok (.lstore_n 3, 1) := by decide +kernel
theorem dX0_digestOfTheWhole_30 : decode cX0_digestOfTheWhole 30 = .ok (.lload_n 3, 1) := by decide +kernel
theorem dX0_digestOfTheWhole_31 : decode cX0_digestOfTheWhole 31 = .ok (.aload_n 0, 1) := by decide +kernel
theorem dX0_digestOfTheWhole_32 : decode cX0_digestOfTheWhole 32 = .ok (.invokevirtual 198, 3) := by decide +kernel
theorem dX0_digestOfTheWhole_35 : decode cX0_digestOfTheWhole 35 = .ok (.i2l, 1) := by decide +kernel
theorem dX0_digestOfTheWhole_36 : decode cX0_digestOfTheWhole 36 = .ok (.invokestatic 188, 3) := by decide +kernel
theorem dX0_digestOfTheWhole_39 : decode cX0_digestOfTheWhole 39 = .ok (.lstore_n 3, 1) := by decide +kernel
theorem dX0_digestOfTheWhole_40 : decode cX0_digestOfTheWhole 40 = .ok (.lload_n 3, 1) := by decide +kernel
theorem dX0_digestOfTheWhole_41 : decode cX0_digestOfTheWhole 41 = .ok (.aload_n 0, 1) := by decide +kernel
theorem dX0_digestOfTheWhole_42 : decode cX0_digestOfTheWhole 42 = .ok (.invokevirtual 201, 3) := by decide +kernel
theorem dX0_digestOfTheWhole_45 : decode cX0_digestOfTheWhole 45 = .ok (.i2l, 1) := by decide +kernel
theorem dX0_digestOfTheWhole_46 : decode cX0_digestOfTheWhole 46 = .ok (.invokestatic 188, 3) := by decide +kernel
theorem dX0_digestOfTheWhole_49 : decode cX0_digestOfTheWhole 49 = .ok (.lstore_n 3, 1) := by decide +kernel
theorem dX0_digestOfTheWhole_50 : decode cX0_digestOfTheWhole 50 = .ok (.lload_n 3, 1) := by decide +kernel
theorem dX0_digestOfTheWhole_51 : decode cX0_digestOfTheWhole 51 = .ok (.aload_n 0, 1) := by decide +kernel
theorem dX0_digestOfTheWhole_52 : decode cX0_digestOfTheWhole 52 = .ok (.invokevirtual 204, 3) := by decide +kernel
theorem dX0_digestOfTheWhole_55 : decode cX0_digestOfTheWhole 55 = .ok (.i2l, 1) := by decide +kernel
theorem dX0_digestOfTheWhole_56 : decode cX0_digestOfTheWhole 56 = .ok (.invokestatic 188, 3) := by decide +kernel
theorem dX0_digestOfTheWhole_59 : decode cX0_digestOfTheWhole 59 = .ok (.lstore_n 3, 1) := by decide +kernel
theorem dX0_digestOfTheWhole_60 : decode cX0_digestOfTheWhole 60 = .ok (.iconst 0, 1) := by decide +kernel
theorem dX0_digestOfTheWhole_61 : decode cX0_digestOfTheWhole 61 = .ok (.istore 5, 2) := by decide +kernel
theorem dX0_digestOfTheWhole_63 : decode cX0_digestOfTheWhole 63 = .ok (.iload 5, 2) := by decide +kernel
theorem dX0_digestOfTheWhole_65 : decode cX0_digestOfTheWhole 65 = .ok (.iconst 3, 1) := by decide +kernel
theorem dX0_digestOfTheWhole_66 : decode cX0_digestOfTheWhole 66 = .ok (.if_icmp .gt 21, 3) := by decide +kernel
theorem dX0_digestOfTheWhole_69 : decode cX0_digestOfTheWhole 69 = .ok (.lload_n 3, 1) := by decide +kernel
theorem dX0_digestOfTheWhole_70 : decode cX0_digestOfTheWhole 70 = .ok (.aload_n 0, 1) := by decide +kernel
theorem dX0_digestOfTheWhole_71 : decode cX0_digestOfTheWhole 71 = .ok (.iload 5, 2) := by decide +kernel
theorem dX0_digestOfTheWhole_73 : decode cX0_digestOfTheWhole 73 = .ok (.invokevirtual 207, 3) := by decide +kernel
theorem dX0_digestOfTheWhole_76 : decode cX0_digestOfTheWhole 76 = .ok (.i2l, 1) := by decide +kernel
theorem dX0_digestOfTheWhole_77 : decode cX0_digestOfTheWhole 77 = .ok (.invokestatic 188, 3) := by decide +kernel
theorem dX0_digestOfTheWhole_80 : decode cX0_digestOfTheWhole 80 = .ok (.lstore_n 3, 1) := by decide +kernel
theorem dX0_digestOfTheWhole_81 : decode cX0_digestOfTheWhole 81 = .ok (.iinc 5 1, 3) := by decide +kernel
theorem dX0_digestOfTheWhole_84 : decode cX0_digestOfTheWhole 84 = .ok (.goto (-21), 3) := by decide +kernel
theorem dX0_digestOfTheWhole_87 : decode cX0_digestOfTheWhole 87 = .ok (.lload_n 3, 1) := by decide +kernel
theorem dX0_digestOfTheWhole_88 : decode cX0_digestOfTheWhole 88 = .ok (.aload_n 0, 1) := by decide +kernel
theorem dX0_digestOfTheWhole_89 : decode cX0_digestOfTheWhole 89 = .ok (.invokevirtual 210, 3) := by decide +kernel
theorem dX0_digestOfTheWhole_92 : decode cX0_digestOfTheWhole 92 = .ok (.i2l, 1) := by decide +kernel
theorem dX0_digestOfTheWhole_93 : decode cX0_digestOfTheWhole 93 = .ok (.invokestatic 188, 3) := by decide +kernel
theorem dX0_digestOfTheWhole_96 : decode cX0_digestOfTheWhole 96 = .ok (.lstore_n 3, 1) := by decide +kernel
theorem dX0_digestOfTheWhole_97 : decode cX0_digestOfTheWhole 97 = .ok (.lload_n 3, 1) := by decide +kernel
theorem dX0_digestOfTheWhole_98 : decode cX0_digestOfTheWhole 98 = .ok (.aload_n 0, 1) := by decide +kernel
theorem dX0_digestOfTheWhole_99 : decode cX0_digestOfTheWhole 99 = .ok (.invokevirtual 213, 3) := by decide +kernel
theorem dX0_digestOfTheWhole_102 : decode cX0_digestOfTheWhole 102 = .ok (.i2l, 1) := by decide +kernel
theorem dX0_digestOfTheWhole_103 : decode cX0_digestOfTheWhole 103 = .ok (.invokestatic 188, 3) := by decide +kernel
theorem dX0_digestOfTheWhole_106 : decode cX0_digestOfTheWhole 106 = .ok (.lreturn, 1) := by decide +kernel
set_option maxRecDepth 20000 in
theorem ggX0_digestOfPerson_X0_isInHall : GoodIn wsX0_digestOfPerson wsX0_isInHall := goodIn_ca (goodIn_r _ [5, 6, 7, 8, 9, 4, 10, 11, 12, 13, 69, 70, 71, 72, 73, 74, 75, 76, 77, 78, 79, 80] (by decide +kernel) (by decide +kernel)) (goodIn_sub (fun _ h => List.mem_cons_of_mem _ (List.mem_append_left _ (List.mem_append_right _ h))) (by decide +kernel))
set_option maxRecDepth 20000 in
theorem gX0_digestOfPerson_X0_isInHall : GoodIn wsX0_digestOfPerson (wsV RX0 216 RX0 yX0_isInHall wsX0_isInHall) := goodIn_app (goodIn_of _ (by decide +kernel)) ggX0_digestOfPerson_X0_isInHall
set_option maxRecDepth 20000 in
theorem ggX0_digestOfPerson_X0_digestWith : GoodIn wsX0_digestOfPerson wsX0_digestWith := goodIn_r _ [16, 17] (by decide +kernel) (by decide +kernel)
set_option maxRecDepth 20000 in
theorem gX0_digestOfPerson_X0_digestWith : GoodIn wsX0_digestOfPerson (va_wsS RX0 188 yX0_digestWith wsX0_digestWith) := goodIn_app (goodIn_of _ (by decide +kernel)) ggX0_digestOfPerson_X0_digestWith
set_option maxRecDepth 20000 in
theorem ggX0_digestOfPerson_X0_prideOf : GoodIn wsX0_digestOfPerson wsX0_prideOf := goodIn_ca (goodIn_r _ [21, 22, 7, 8, 9, 4, 10, 11, 12, 13, 69, 70, 71, 72, 73, 74, 75, 76, 77, 78, 79, 80] (by decide +kernel) (by decide +kernel)) (goodIn_sub (fun _ h => List.mem_cons_of_mem _ (List.mem_append_left _ (List.mem_append_right _ h))) (by decide +kernel))
set_option maxRecDepth 20000 in
theorem gX0_digestOfPerson_X0_prideOf : GoodIn wsX0_digestOfPerson (wsV RX0 174 RX0 yX0_prideOf wsX0_prideOf) := goodIn_app (goodIn_of _ (by decide +kernel)) ggX0_digestOfPerson_X0_prideOf
set_option maxRecDepth 20000 in
theorem ggX0_digestOfPerson_X0_borneBy : GoodIn wsX0_digestOfPerson wsX0_borneBy := goodIn_ca (goodIn_r _ [26, 27, 28, 29, 30, 7, 8, 9, 4, 10, 11, 12, 13, 69, 70, 71, 72, 73, 74, 75, 76, 77, 78, 79, 80] (by decide +kernel) (by decide +kernel)) (goodIn_sub (fun _ h => List.mem_cons_of_mem _ (List.mem_append_left _ (List.mem_append_right _ h))) (by decide +kernel))
set_option maxRecDepth 20000 in
theorem gX0_digestOfPerson_X0_borneBy : GoodIn wsX0_digestOfPerson (wsV RX0 116 RX0 yX0_borneBy wsX0_borneBy) := goodIn_app (goodIn_of _ (by decide +kernel)) ggX0_digestOfPerson_X0_borneBy
set_option maxRecDepth 20000 in
theorem ggX0_digestOfPerson_X0_owedBy : GoodIn wsX0_digestOfPerson wsX0_owedBy := goodIn_ca (goodIn_r _ [34, 27, 28, 35, 30, 7, 8, 9, 4, 10, 11, 12, 13, 69, 70, 71, 72, 73, 74, 75, 76, 77, 78, 79, 80] (by decide +kernel) (by decide +kernel)) (goodIn_sub (fun _ h => List.mem_cons_of_mem _ (List.mem_append_left _ (List.mem_append_right _ h))) (by decide +kernel))
set_option maxRecDepth 20000 in
theorem gX0_digestOfPerson_X0_owedBy : GoodIn wsX0_digestOfPerson (wsV RX0 220 RX0 yX0_owedBy wsX0_owedBy) := goodIn_app (goodIn_of _ (by decide +kernel)) ggX0_digestOfPerson_X0_owedBy
set_option maxRecDepth 20000 in
theorem ggX0_digestOfPerson_X0_borneIn : GoodIn wsX0_digestOfPerson wsX0_borneIn := goodIn_ca (goodIn_ca (goodIn_r _ [39, 27, 29, 7, 8, 9, 4, 10, 11, 12, 13, 40, 41, 42, 43, 44, 45, 46, 47, 48, 28, 49, 30, 50, 51, 52, 53, 54, 55, 56, 57, 58, 59, 60, 61, 62, 63, 64, 69, 70, 71, 72, 73, 74, 75, 76, 77, 78, 79, 80] (by decide +kernel) (by decide +kernel)) (goodIn_sub (fun _ h => List.mem_cons_of_mem _ (List.mem_append_left _ (List.mem_append_right _ h))) (by decide +kernel))) (goodIn_sub (fun _ h => List.mem_cons_of_mem _ (List.mem_append_right _ h)) (by decide +kernel))
set_option maxRecDepth 20000 in
theorem gX0_digestOfPerson_X0_borneIn : GoodIn wsX0_digestOfPerson (wsV RX0 223 RX0 yX0_borneIn wsX0_borneIn) := goodIn_app (goodIn_of _ (by decide +kernel)) ggX0_digestOfPerson_X0_borneIn
set_option maxRecDepth 20000 in
theorem ggX0_digestOfPerson_X0_worstToKeep : GoodIn wsX0_digestOfPerson wsX0_worstToKeep := goodIn_ca (goodIn_ca (goodIn_r _ [68, 27, 28, 35, 30, 7, 8, 9, 4, 10, 11, 12, 13, 45, 46, 47, 48, 49, 50, 51, 52, 53, 54, 40, 41, 42, 43, 44, 55, 56, 57, 58, 59, 60, 61, 62, 63, 64, 69, 70, 71, 72, 73, 74, 75, 76, 77, 78, 79, 80] (by decide +kernel) (by decide +kernel)) (goodIn_sub (fun _ h => List.mem_cons_of_mem _ (List.mem_append_left _ (List.mem_append_right _ h))) (by decide +kernel))) (goodIn_sub (fun _ h => List.mem_cons_of_mem _ (List.mem_append_right _ h)) (by decide +kernel))
set_option maxRecDepth 20000 in
theorem gX0_digestOfPerson_X0_worstToKeep : GoodIn wsX0_digestOfPerson (wsV RX0 226 RX0 yX0_worstToKeep wsX0_worstToKeep) := goodIn_app (goodIn_of _ (by decide +kernel)) ggX0_digestOfPerson_X0_worstToKeep
theorem dX0_digestOfPerson_0 : decode cX0_digestOfPerson 0 = .ok (.lload_n 1, 1) := by decide +kernel
theorem dX0_digestOfPerson_1 : decode cX0_digestOfPerson 1 = .ok (.aload_n 0, 1) := by decide +kernel
theorem dX0_digestOfPerson_2 : decode cX0_digestOfPerson 2 = .ok (.iload_n 3, 1) := by decide +kernel
theorem dX0_digestOfPerson_3 : decode cX0_digestOfPerson 3 = .ok (.invokevirtual 216, 3) := by decide +kernel
theorem dX0_digestOfPerson_6 : decode cX0_digestOfPerson 6 = .ok (.ifCond .eq 7, 3) := by decide +kernel
theorem dX0_digestOfPerson_9 : decode cX0_digestOfPerson 9 = .ok (.lconst 1, 1) := by decide +kernel
theorem dX0_digestOfPerson_10 : decode cX0_digestOfPerson 10 = .ok (.goto 4, 3) := by decide +kernel
theorem dX0_digestOfPerson_13 : decode cX0_digestOfPerson 13 = .ok (.lconst 0, 1) := by decide +kernel
theorem dX0_digestOfPerson_14 : decode cX0_digestOfPerson 14 = .ok (.invokestatic 188, 3) := by decide +kernel
theorem dX0_digestOfPerson_17 : decode cX0_digestOfPerson 17 = .ok (.lstore 4, 2) := by decide +kernel
theorem dX0_digestOfPerson_19 : decode cX0_digestOfPerson 19 = .ok (.lload 4, 2) := by decide +kernel
theorem dX0_digestOfPerson_21 : decode cX0_digestOfPerson 21 = .ok (.aload_n 0, 1) := by decide +kernel
theorem dX0_digestOfPerson_22 : decode cX0_digestOfPerson 22 = .ok (.iload_n 3, 1) := by decide +kernel
theorem dX0_digestOfPerson_23 : decode cX0_digestOfPerson 23 = .ok (.invokevirtual 174, 3) := by decide +kernel
theorem dX0_digestOfPerson_26 : decode cX0_digestOfPerson 26 = .ok (.i2l, 1) := by decide +kernel
theorem dX0_digestOfPerson_27 : decode cX0_digestOfPerson 27 = .ok (.invokestatic 188, 3) := by decide +kernel
theorem dX0_digestOfPerson_30 : decode cX0_digestOfPerson 30 = .ok (.lstore 4, 2) := by decide +kernel
theorem dX0_digestOfPerson_32 : decode cX0_digestOfPerson 32 = .ok (.lload 4, 2) := by decide +kernel
theorem dX0_digestOfPerson_34 : decode cX0_digestOfPerson 34 = .ok (.aload_n 0, 1) := by decide +kernel
theorem dX0_digestOfPerson_35 : decode cX0_digestOfPerson 35 = .ok (.iload_n 3, 1) := by decide +kernel
theorem dX0_digestOfPerson_36 : decode cX0_digestOfPerson 36 = .ok (.invokevirtual 116, 3) := by decide +kernel
theorem dX0_digestOfPerson_39 : decode cX0_digestOfPerson 39 = .ok (.i2l, 1) := by decide +kernel
theorem dX0_digestOfPerson_40 : decode cX0_digestOfPerson 40 = .ok (.invokestatic 188, 3) := by decide +kernel
theorem dX0_digestOfPerson_43 : decode cX0_digestOfPerson 43 = .ok (.lstore 4, 2) := by decide +kernel
theorem dX0_digestOfPerson_45 : decode cX0_digestOfPerson 45 = .ok (.lload 4, 2) := by decide +kernel
theorem dX0_digestOfPerson_47 : decode cX0_digestOfPerson 47 = .ok (.aload_n 0, 1) := by decide +kernel
theorem dX0_digestOfPerson_48 : decode cX0_digestOfPerson 48 = .ok (.iload_n 3, 1) := by decide +kernel
theorem dX0_digestOfPerson_49 : decode cX0_digestOfPerson 49 = .ok (.invokevirtual 220, 3) := by decide +kernel
theorem dX0_digestOfPerson_52 : decode cX0_digestOfPerson 52 = .ok (.i2l, 1) := by decide +kernel
theorem dX0_digestOfPerson_53 : decode cX0_digestOfPerson 53 = .ok (.invokestatic 188, 3) := by decide +kernel
theorem dX0_digestOfPerson_56 : decode cX0_digestOfPerson 56 = .ok (.lstore 4, 2) := by decide +kernel
theorem dX0_digestOfPerson_58 : decode cX0_digestOfPerson 58 = .ok (.lload 4, 2) := by decide +kernel
theorem dX0_digestOfPerson_60 : decode cX0_digestOfPerson 60 = .ok (.aload_n 0, 1) := by decide +kernel
theorem dX0_digestOfPerson_61 : decode cX0_digestOfPerson 61 = .ok (.iload_n 3, 1) := by decide +kernel
theorem dX0_digestOfPerson_62 : decode cX0_digestOfPerson 62 = .ok (.bipush 10, 2) := by decide +kernel
theorem dX0_digestOfPerson_64 : decode cX0_digestOfPerson 64 = .ok (.invokevirtual 223, 3) := by decide +kernel
theorem dX0_digestOfPerson_67 : decode cX0_digestOfPerson 67 = .ok (.i2l, 1) := by decide +kernel
theorem dX0_digestOfPerson_68 : decode cX0_digestOfPerson 68 = .ok (.invokestatic 188, 3) := by decide +kernel
theorem dX0_digestOfPerson_71 : decode cX0_digestOfPerson 71 = .ok (.lstore 4, 2) := by decide +kernel
theorem dX0_digestOfPerson_73 : decode cX0_digestOfPerson 73 = .ok (.lload 4, 2) := by decide +kernel
theorem dX0_digestOfPerson_75 : decode cX0_digestOfPerson 75 = .ok (.aload_n 0, 1) := by decide +kernel
theorem dX0_digestOfPerson_76 : decode cX0_digestOfPerson 76 = .ok (.iload_n 3, 1) := by decide +kernel
theorem dX0_digestOfPerson_77 : decode cX0_digestOfPerson 77 = .ok (.invokevirtual 226, 3) := by decide +kernel
theorem dX0_digestOfPerson_80 : decode cX0_digestOfPerson 80 = .ok (.i2l, 1) := by decide +kernel
theorem dX0_digestOfPerson_81 : decode cX0_digestOfPerson 81 = .ok (.invokestatic 188, 3) := by decide +kernel
theorem dX0_digestOfPerson_84 : decode cX0_digestOfPerson 84 = .ok (.lreturn, 1) := by decide +kernel
set_option maxRecDepth 20000 in
theorem ggX0_digestOfSlight_X0_weightOf : GoodIn wsX0_digestOfSlight wsX0_weightOf := goodIn_ca (goodIn_r _ [5, 6, 7, 8, 9, 4, 10, 11, 12, 13, 89, 90, 91, 92, 93, 94, 95, 96, 97, 98, 99, 100] (by decide +kernel) (by decide +kernel)) (goodIn_sub (fun _ h => List.mem_cons_of_mem _ (List.mem_append_left _ (List.mem_append_right _ h))) (by decide +kernel))
set_option maxRecDepth 20000 in
theorem gX0_digestOfSlight_X0_weightOf : GoodIn wsX0_digestOfSlight (wsV RX0 177 RX0 yX0_weightOf wsX0_weightOf) := goodIn_app (goodIn_of _ (by decide +kernel)) ggX0_digestOfSlight_X0_weightOf
set_option maxRecDepth 20000 in
theorem ggX0_digestOfSlight_X0_digestWith : GoodIn wsX0_digestOfSlight wsX0_digestWith := goodIn_r _ [16, 17] (by decide +kernel) (by decide +kernel)
set_option maxRecDepth 20000 in
theorem gX0_digestOfSlight_X0_digestWith : GoodIn wsX0_digestOfSlight (va_wsS RX0 188 yX0_digestWith wsX0_digestWith) := goodIn_app (goodIn_of _ (by decide +kernel)) ggX0_digestOfSlight_X0_digestWith
set_option maxRecDepth 20000 in
theorem ggX0_digestOfSlight_X0_stateOf : GoodIn wsX0_digestOfSlight wsX0_stateOf := goodIn_ca (goodIn_r _ [21, 22, 7, 8, 9, 4, 10, 11, 12, 13, 89, 90, 91, 92, 93, 94, 95, 96, 97, 98, 99, 100] (by decide +kernel) (by decide +kernel)) (goodIn_sub (fun _ h => List.mem_cons_of_mem _ (List.mem_append_left _ (List.mem_append_right _ h))) (by decide +kernel))
set_option maxRecDepth 20000 in
theorem gX0_digestOfSlight_X0_stateOf : GoodIn wsX0_digestOfSlight (wsV RX0 150 RX0 yX0_stateOf wsX0_stateOf) := goodIn_app (goodIn_of _ (by decide +kernel)) ggX0_digestOfSlight_X0_stateOf
set_option maxRecDepth 20000 in
theorem ggX0_digestOfSlight_X0_borneFor : GoodIn wsX0_digestOfSlight wsX0_borneFor := goodIn_ca (goodIn_r _ [26, 27, 7, 8, 9, 4, 10, 11, 12, 13, 89, 90, 91, 92, 93, 94, 95, 96, 97, 98, 99, 100] (by decide +kernel) (by decide +kernel)) (goodIn_sub (fun _ h => List.mem_cons_of_mem _ (List.mem_append_left _ (List.mem_append_right _ h))) (by decide +kernel))
set_option maxRecDepth 20000 in
theorem gX0_digestOfSlight_X0_borneFor : GoodIn wsX0_digestOfSlight (wsV RX0 229 RX0 yX0_borneFor wsX0_borneFor) := goodIn_app (goodIn_of _ (by decide +kernel)) ggX0_digestOfSlight_X0_borneFor
set_option maxRecDepth 20000 in
theorem ggX0_digestOfSlight_X0_quietFor : GoodIn wsX0_digestOfSlight wsX0_quietFor := goodIn_ca (goodIn_r _ [31, 32, 7, 8, 9, 4, 10, 11, 12, 13, 89, 90, 91, 92, 93, 94, 95, 96, 97, 98, 99, 100] (by decide +kernel) (by decide +kernel)) (goodIn_sub (fun _ h => List.mem_cons_of_mem _ (List.mem_append_left _ (List.mem_append_right _ h))) (by decide +kernel))
set_option maxRecDepth 20000 in
theorem gX0_digestOfSlight_X0_quietFor : GoodIn wsX0_digestOfSlight (wsV RX0 232 RX0 yX0_quietFor wsX0_quietFor) := goodIn_app (goodIn_of _ (by decide +kernel)) ggX0_digestOfSlight_X0_quietFor
set_option maxRecDepth 20000 in
theorem ggX0_digestOfSlight_X0_witnessesFor : GoodIn wsX0_digestOfSlight wsX0_witnessesFor := goodIn_ca (goodIn_r _ [36, 37, 38, 39, 40, 7, 8, 9, 4, 10, 11, 12, 13, 89, 90, 91, 92, 93, 94, 95, 96, 97, 98, 99, 100] (by decide +kernel) (by decide +kernel)) (goodIn_sub (fun _ h => List.mem_cons_of_mem _ (List.mem_append_left _ (List.mem_append_right _ h))) (by decide +kernel))
set_option maxRecDepth 20000 in
theorem gX0_digestOfSlight_X0_witnessesFor : GoodIn wsX0_digestOfSlight (wsV RX0 168 RX0 yX0_witnessesFor wsX0_witnessesFor) := goodIn_app (goodIn_of _ (by decide +kernel)) ggX0_digestOfSlight_X0_witnessesFor
set_option maxRecDepth 20000 in
theorem ggX0_digestOfSlight_X0_wordsWanted : GoodIn wsX0_digestOfSlight wsX0_wordsWanted := goodIn_ca (goodIn_r _ [44, 22, 6, 45, 46, 47, 48, 7, 8, 9, 4, 10, 11, 12, 13, 49, 50, 51, 52, 53, 54, 55, 56, 40, 57, 58, 59, 60, 61, 62, 63, 64, 65, 37, 1, 2, 3, 5, 66, 67, 68, 69, 33, 34, 35, 36, 38, 39, 89, 90, 91, 92, 93, 94, 95, 96, 97, 98, 99, 100] (by decide +kernel) (by decide +kernel)) (goodIn_sub (fun _ h => List.mem_cons_of_mem _ (List.mem_append_left _ (List.mem_append_right _ h))) (by decide +kernel))
set_option maxRecDepth 20000 in
theorem gX0_digestOfSlight_X0_wordsWanted : GoodIn wsX0_digestOfSlight (wsV RX0 235 RX0 yX0_wordsWanted wsX0_wordsWanted) := goodIn_app (goodIn_of _ (by decide +kernel)) ggX0_digestOfSlight_X0_wordsWanted
set_option maxRecDepth 20000 in
theorem ggX0_digestOfSlight_X0_weightIn : GoodIn wsX0_digestOfSlight wsX0_weightIn := goodIn_ca (goodIn_ca (goodIn_r _ [73, 22, 32, 6, 27, 7, 8, 9, 4, 10, 11, 12, 13, 74, 75, 76, 77, 78, 79, 80, 81, 45, 46, 47, 48, 82, 83, 84, 89, 90, 91, 92, 93, 94, 95, 96, 97, 98, 99, 100] (by decide +kernel) (by decide +kernel)) (goodIn_sub (fun _ h => List.mem_cons_of_mem _ (List.mem_append_left _ (List.mem_append_right _ h))) (by decide +kernel))) (goodIn_sub (fun _ h => List.mem_cons_of_mem _ (List.mem_append_right _ h)) (by decide +kernel))
set_option maxRecDepth 20000 in
theorem gX0_digestOfSlight_X0_weightIn : GoodIn wsX0_digestOfSlight (wsV RX0 127 RX0 yX0_weightIn wsX0_weightIn) := goodIn_app (goodIn_of _ (by decide +kernel)) ggX0_digestOfSlight_X0_weightIn
set_option maxRecDepth 20000 in
theorem ggX0_digestOfSlight_X0_daysUntilForgotten : GoodIn wsX0_digestOfSlight wsX0_daysUntilForgotten := goodIn_ca (goodIn_r _ [88, 22, 32, 7, 8, 9, 4, 10, 11, 12, 13, 89, 90, 91, 92, 93, 94, 95, 96, 97, 98, 99, 100] (by decide +kernel) (by decide +kernel)) (goodIn_sub (fun _ h => List.mem_cons_of_mem _ (List.mem_append_left _ (List.mem_append_right _ h))) (by decide +kernel))
set_option maxRecDepth 20000 in
theorem gX0_digestOfSlight_X0_daysUntilForgotten : GoodIn wsX0_digestOfSlight (wsV RX0 238 RX0 yX0_daysUntilForgotten wsX0_daysUntilForgotten) := goodIn_app (goodIn_of _ (by decide +kernel)) ggX0_digestOfSlight_X0_daysUntilForgotten
theorem dX0_digestOfSlight_0 : decode cX0_digestOfSlight 0 = .ok (.lload_n 1, 1) := by decide +kernel
theorem dX0_digestOfSlight_1 : decode cX0_digestOfSlight 1 = .ok (.aload_n 0, 1) := by decide +kernel
theorem dX0_digestOfSlight_2 : decode cX0_digestOfSlight 2 = .ok (.iload_n 3, 1) := by decide +kernel
theorem dX0_digestOfSlight_3 : decode cX0_digestOfSlight 3 = .ok (.invokevirtual 177, 3) := by decide +kernel
theorem dX0_digestOfSlight_6 : decode cX0_digestOfSlight 6 = .ok (.i2l, 1) := by decide +kernel
theorem dX0_digestOfSlight_7 : decode cX0_digestOfSlight 7 = .ok (.invokestatic 188, 3) := by decide +kernel
theorem dX0_digestOfSlight_10 : decode cX0_digestOfSlight 10 = .ok (.lstore 4, 2) := by decide +kernel
theorem dX0_digestOfSlight_12 : decode cX0_digestOfSlight 12 = .ok (.lload 4, 2) := by decide +kernel
theorem dX0_digestOfSlight_14 : decode cX0_digestOfSlight 14 = .ok (.aload_n 0, 1) := by decide +kernel
theorem dX0_digestOfSlight_15 : decode cX0_digestOfSlight 15 = .ok (.iload_n 3, 1) := by decide +kernel
theorem dX0_digestOfSlight_16 : decode cX0_digestOfSlight 16 = .ok (.invokevirtual 150, 3) := by decide +kernel
theorem dX0_digestOfSlight_19 : decode cX0_digestOfSlight 19 = .ok (.i2l, 1) := by decide +kernel
theorem dX0_digestOfSlight_20 : decode cX0_digestOfSlight 20 = .ok (.invokestatic 188, 3) := by decide +kernel
theorem dX0_digestOfSlight_23 : decode cX0_digestOfSlight 23 = .ok (.lstore 4, 2) := by decide +kernel
theorem dX0_digestOfSlight_25 : decode cX0_digestOfSlight 25 = .ok (.lload 4, 2) := by decide +kernel
theorem dX0_digestOfSlight_27 : decode cX0_digestOfSlight 27 = .ok (.aload_n 0, 1) := by decide +kernel
theorem dX0_digestOfSlight_28 : decode cX0_digestOfSlight 28 = .ok (.iload_n 3, 1) := by decide +kernel
theorem dX0_digestOfSlight_29 : decode cX0_digestOfSlight 29 = .ok (.invokevirtual 229, 3) := by decide +kernel
theorem dX0_digestOfSlight_32 : decode cX0_digestOfSlight 32 = .ok (.i2l, 1) := by decide +kernel
theorem dX0_digestOfSlight_33 : decode cX0_digestOfSlight 33 = .ok (.invokestatic 188, 3) := by decide +kernel
theorem dX0_digestOfSlight_36 : decode cX0_digestOfSlight 36 = .ok (.lstore 4, 2) := by decide +kernel
theorem dX0_digestOfSlight_38 : decode cX0_digestOfSlight 38 = .ok (.lload 4, 2) := by decide +kernel
theorem dX0_digestOfSlight_40 : decode cX0_digestOfSlight 40 = .ok (.aload_n 0, 1) := by decide +kernel
theorem dX0_digestOfSlight_41 : decode cX0_digestOfSlight 41 = .ok (.iload_n 3, 1) := by decide +kernel
theorem dX0_digestOfSlight_42 : decode cX0_digestOfSlight 42 = .ok (.invokevirtual 232, 3) := by decide +kernel
theorem dX0_digestOfSlight_45 : decode cX0_digestOfSlight 45 = .ok (.i2l, 1) := by decide +kernel
theorem dX0_digestOfSlight_46 : decode cX0_digestOfSlight 46 = .ok (.invokestatic 188, 3) := by decide +kernel
theorem dX0_digestOfSlight_49 : decode cX0_digestOfSlight 49 = .ok (.lstore 4, 2) := by decide +kernel
theorem dX0_digestOfSlight_51 : decode cX0_digestOfSlight 51 = .ok (.lload 4, 2) := by decide +kernel
theorem dX0_digestOfSlight_53 : decode cX0_digestOfSlight 53 = .ok (.aload_n 0, 1) := by decide +kernel
theorem dX0_digestOfSlight_54 : decode cX0_digestOfSlight 54 = .ok (.iload_n 3, 1) := by decide +kernel
theorem dX0_digestOfSlight_55 : decode cX0_digestOfSlight 55 = .ok (.invokevirtual 168, 3) := by decide +kernel
theorem dX0_digestOfSlight_58 : decode cX0_digestOfSlight 58 = .ok (.i2l, 1) := by decide +kernel
theorem dX0_digestOfSlight_59 : decode cX0_digestOfSlight 59 = .ok (.invokestatic 188, 3) := by decide +kernel
theorem dX0_digestOfSlight_62 : decode cX0_digestOfSlight 62 = .ok (.lstore 4, 2) := by decide +kernel
theorem dX0_digestOfSlight_64 : decode cX0_digestOfSlight 64 = .ok (.lload 4, 2) := by decide +kernel
theorem dX0_digestOfSlight_66 : decode cX0_digestOfSlight 66 = .ok (.aload_n 0, 1) := by decide +kernel
theorem dX0_digestOfSlight_67 : decode cX0_digestOfSlight 67 = .ok (.iload_n 3, 1) := by decide +kernel
theorem dX0_digestOfSlight_68 : decode cX0_digestOfSlight 68 = .ok (.invokevirtual 235, 3) := by decide +kernel
theorem dX0_digestOfSlight_71 : decode cX0_digestOfSlight 71 = .ok (.i2l, 1) := by decide +kernel
theorem dX0_digestOfSlight_72 : decode cX0_digestOfSlight 72 = .ok (.invokestatic 188, 3) := by decide +kernel
theorem dX0_digestOfSlight_75 : decode cX0_digestOfSlight 75 = .ok (.lstore 4, 2) := by decide +kernel
theorem dX0_digestOfSlight_77 : decode cX0_digestOfSlight 77 = .ok (.lload 4, 2) := by decide +kernel
theorem dX0_digestOfSlight_79 : decode cX0_digestOfSlight 79 = .ok (.aload_n 0, 1) := by decide +kernel
theorem dX0_digestOfSlight_80 : decode cX0_digestOfSlight 80 = .ok (.iload_n 3, 1) := by decide +kernel
theorem dX0_digestOfSlight_81 : decode cX0_digestOfSlight 81 = .ok (.bipush 7, 2) := by decide +kernel
theorem dX0_digestOfSlight_83 : decode cX0_digestOfSlight 83 = .ok (.invokevirtual 127, 3) := by decide +kernel
theorem dX0_digestOfSlight_86 : decode cX0_digestOfSlight 86 = .ok (.i2l, 1) := by decide +kernel
theorem dX0_digestOfSlight_87 : decode cX0_digestOfSlight 87 = .ok (.invokestatic 188, 3) := by decide +kernel
theorem dX0_digestOfSlight_90 : decode cX0_digestOfSlight 90 = .ok (.lstore 4, 2) := by decide +kernel
theorem dX0_digestOfSlight_92 : decode cX0_digestOfSlight 92 = .ok (.lload 4, 2) := by decide +kernel
theorem dX0_digestOfSlight_94 : decode cX0_digestOfSlight 94 = .ok (.aload_n 0, 1) := by decide +kernel
theorem dX0_digestOfSlight_95 : decode cX0_digestOfSlight 95 = .ok (.iload_n 3, 1) := by decide +kernel
theorem dX0_digestOfSlight_96 : decode cX0_digestOfSlight 96 = .ok (.invokevirtual 238, 3) := by decide +kernel
theorem dX0_digestOfSlight_99 : decode cX0_digestOfSlight 99 = .ok (.i2l, 1) := by decide +kernel
theorem dX0_digestOfSlight_100 : decode cX0_digestOfSlight 100 = .ok (.invokestatic 188, 3) := by decide +kernel
theorem dX0_digestOfSlight_103 : decode cX0_digestOfSlight 103 = .ok (.lreturn, 1) := by decide +kernel
