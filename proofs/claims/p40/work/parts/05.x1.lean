theorem dX1_init_0 : decode cX1_init 0 = .ok (.aload_n 0, 1) := by decide +kernel
theorem dX1_init_1 : decode cX1_init 1 = .ok (.invokespecial 1, 3) := by decide +kernel
theorem dX1_init_4 : decode cX1_init 4 = .ok (.aload_n 0, 1) := by decide +kernel
theorem dX1_init_5 : decode cX1_init 5 = .ok (.iconst 0, 1) := by decide +kernel
theorem dX1_init_6 : decode cX1_init 6 = .ok (.anewarray 7, 3) := by decide +kernel
theorem dX1_init_9 : decode cX1_init 9 = .ok (.putfield 9, 3) := by decide +kernel
theorem dX1_init_12 : decode cX1_init 12 = .ok (.aload_n 0, 1) := by decide +kernel
theorem dX1_init_13 : decode cX1_init 13 = .ok (.iconst 0, 1) := by decide +kernel
theorem dX1_init_14 : decode cX1_init 14 = .ok (.anewarray 7, 3) := by decide +kernel
theorem dX1_init_17 : decode cX1_init 17 = .ok (.putfield 15, 3) := by decide +kernel
theorem dX1_init_20 : decode cX1_init 20 = .ok (.return_, 1) := by decide +kernel
theorem dX1_with_0 : decode cX1_with 0 = .ok (.aload_n 0, 1) := by decide +kernel
theorem dX1_with_1 : decode cX1_with 1 = .ok (.arraylength, 1) := by decide +kernel
theorem dX1_with_2 : decode cX1_with 2 = .ok (.iconst 1, 1) := by decide +kernel
theorem dX1_with_3 : decode cX1_with 3 = .ok (.iadd, 1) := by decide +kernel
theorem dX1_with_4 : decode cX1_with 4 = .ok (.anewarray 7, 3) := by decide +kernel
theorem dX1_with_7 : decode cX1_with 7 = .ok (.astore_n 2, 1) := by decide +kernel
theorem dX1_with_8 : decode cX1_with 8 = .ok (.iconst 0, 1) := by decide +kernel
theorem dX1_with_9 : decode cX1_with 9 = .ok (.istore_n 3, 1) := by decide +kernel
theorem dX1_with_10 : decode cX1_with 10 = .ok (.iload_n 3, 1) := by decide +kernel
theorem dX1_with_11 : decode cX1_with 11 = .ok (.aload_n 0, 1) := by decide +kernel
theorem dX1_with_12 : decode cX1_with 12 = .ok (.arraylength, 1) := by decide +kernel
theorem dX1_with_13 : decode cX1_with 13 = .ok (.if_icmp .ge 15, 3) := by decide +kernel
theorem dX1_with_16 : decode cX1_with 16 = .ok (.aload_n 2, 1) := by decide +kernel
theorem dX1_with_17 : decode cX1_with 17 = .ok (.iload_n 3, 1) := by decide +kernel
theorem dX1_with_18 : decode cX1_with 18 = .ok (.aload_n 0, 1) := by decide +kernel
theorem dX1_with_19 : decode cX1_with 19 = .ok (.iload_n 3, 1) := by decide +kernel
theorem dX1_with_20 : decode cX1_with 20 = .ok (.aaload, 1) := by decide +kernel
theorem dX1_with_21 : decode cX1_with 21 = .ok (.aastore, 1) := by decide +kernel
theorem dX1_with_22 : decode cX1_with 22 = .ok (.iinc 3 1, 3) := by decide +kernel
theorem dX1_with_25 : decode cX1_with 25 = .ok (.goto (-15), 3) := by decide +kernel
theorem dX1_with_28 : decode cX1_with 28 = .ok (.aload_n 2, 1) := by decide +kernel
theorem dX1_with_29 : decode cX1_with 29 = .ok (.aload_n 0, 1) := by decide +kernel
theorem dX1_with_30 : decode cX1_with 30 = .ok (.arraylength, 1) := by decide +kernel
theorem dX1_with_31 : decode cX1_with 31 = .ok (.aload_n 1, 1) := by decide +kernel
theorem dX1_with_32 : decode cX1_with 32 = .ok (.aastore, 1) := by decide +kernel
theorem dX1_with_33 : decode cX1_with 33 = .ok (.aload_n 2, 1) := by decide +kernel
theorem dX1_with_34 : decode cX1_with 34 = .ok (.areturn, 1) := by decide +kernel
theorem dX1_speak_0 : decode cX1_speak 0 = .ok (.aload_n 1, 1) := by decide +kernel
theorem dX1_speak_1 : decode cX1_speak 1 = .ok (.iconst 2, 1) := by decide +kernel
theorem dX1_speak_2 : decode cX1_speak 2 = .ok (.iaload, 1) := by decide +kernel
theorem dX1_speak_3 : decode cX1_speak 3 = .ok (.bipush 99, 2) := by decide +kernel
theorem dX1_speak_5 : decode cX1_speak 5 = .ok (.if_icmp .ge 10, 3) := by decide +kernel
theorem dX1_speak_8 : decode cX1_speak 8 = .ok (.aload_n 1, 1) := by decide +kernel
theorem dX1_speak_9 : decode cX1_speak 9 = .ok (.iconst 2, 1) := by decide +kernel
theorem dX1_speak_10 : decode cX1_speak 10 = .ok (.dup2, 1) := by decide +kernel
theorem dX1_speak_11 : decode cX1_speak 11 = .ok (.iaload, 1) := by decide +kernel
theorem dX1_speak_12 : decode cX1_speak 12 = .ok (.iconst 1, 1) := by decide +kernel
theorem dX1_speak_13 : decode cX1_speak 13 = .ok (.iadd, 1) := by decide +kernel
theorem dX1_speak_14 : decode cX1_speak 14 = .ok (.iastore, 1) := by decide +kernel
theorem dX1_speak_15 : decode cX1_speak 15 = .ok (.aload_n 1, 1) := by decide +kernel
theorem dX1_speak_16 : decode cX1_speak 16 = .ok (.iconst 5, 1) := by decide +kernel
theorem dX1_speak_17 : decode cX1_speak 17 = .ok (.iconst 0, 1) := by decide +kernel
theorem dX1_speak_18 : decode cX1_speak 18 = .ok (.iastore, 1) := by decide +kernel
theorem dX1_speak_19 : decode cX1_speak 19 = .ok (.return_, 1) := by decide +kernel
theorem dX1_witnesses_0 : decode cX1_witnesses 0 = .ok (.iconst 0, 1) := by decide +kernel
theorem dX1_witnesses_1 : decode cX1_witnesses 1 = .ok (.istore_n 2, 1) := by decide +kernel
theorem dX1_witnesses_2 : decode cX1_witnesses 2 = .ok (.iconst 0, 1) := by decide +kernel
theorem dX1_witnesses_3 : decode cX1_witnesses 3 = .ok (.istore_n 3, 1) := by decide +kernel
theorem dX1_witnesses_4 : decode cX1_witnesses 4 = .ok (.iload_n 3, 1) := by decide +kernel
theorem dX1_witnesses_5 : decode cX1_witnesses 5 = .ok (.aload_n 0, 1) := by decide +kernel
theorem dX1_witnesses_6 : decode cX1_witnesses 6 = .ok (.getfield 9, 3) := by decide +kernel
theorem dX1_witnesses_9 : decode cX1_witnesses 9 = .ok (.arraylength, 1) := by decide +kernel
theorem dX1_witnesses_10 : decode cX1_witnesses 10 = .ok (.if_icmp .ge 34, 3) := by decide +kernel
theorem dX1_witnesses_13 : decode cX1_witnesses 13 = .ok (.iload_n 3, 1) := by decide +kernel
theorem dX1_witnesses_14 : decode cX1_witnesses 14 = .ok (.aload_n 1, 1) := by decide +kernel
theorem dX1_witnesses_15 : decode cX1_witnesses 15 = .ok (.iconst 0, 1) := by decide +kernel
theorem dX1_witnesses_16 : decode cX1_witnesses 16 = .ok (.iaload, 1) := by decide +kernel
theorem dX1_witnesses_17 : decode cX1_witnesses 17 = .ok (.if_icmp .eq 21, 3) := by decide +kernel
theorem dX1_witnesses_20 : decode cX1_witnesses 20 = .ok (.iload_n 3, 1) := by decide +kernel
theorem dX1_witnesses_21 : decode cX1_witnesses 21 = .ok (.aload_n 1, 1) := by decide +kernel
theorem dX1_witnesses_22 : decode cX1_witnesses 22 = .ok (.iconst 1, 1) := by decide +kernel
theorem dX1_witnesses_23 : decode cX1_witnesses 23 = .ok (.iaload, 1) := by decide +kernel
theorem dX1_witnesses_24 : decode cX1_witnesses 24 = .ok (.if_icmp .eq 14, 3) := by decide +kernel
theorem dX1_witnesses_27 : decode cX1_witnesses 27 = .ok (.iload_n 2, 1) := by decide +kernel
theorem dX1_witnesses_28 : decode cX1_witnesses 28 = .ok (.aload_n 0, 1) := by decide +kernel
theorem dX1_witnesses_29 : decode cX1_witnesses 29 = .ok (.getfield 9, 3) := by decide +kernel
theorem dX1_witnesses_32 : decode cX1_witnesses 32 = .ok (.iload_n 3, 1) := by decide +kernel
theorem dX1_witnesses_33 : decode cX1_witnesses 33 = .ok (.aaload, 1) := by decide +kernel
theorem dX1_witnesses_34 : decode cX1_witnesses 34 = .ok (.iconst 1, 1) := by decide +kernel
theorem dX1_witnesses_35 : decode cX1_witnesses 35 = .ok (.iaload, 1) := by decide +kernel
theorem dX1_witnesses_36 : decode cX1_witnesses 36 = .ok (.iadd, 1) := by decide +kernel
theorem dX1_witnesses_37 : decode cX1_witnesses 37 = .ok (.istore_n 2, 1) := by decide +kernel
theorem dX1_witnesses_38 : decode cX1_witnesses 38 = .ok (.iinc 3 1, 3) := by decide +kernel
theorem dX1_witnesses_41 : decode cX1_witnesses 41 = .ok (.goto (-37), 3) := by decide +kernel
theorem dX1_witnesses_44 : decode cX1_witnesses 44 = .ok (.iload_n 2, 1) := by decide +kernel
theorem dX1_witnesses_45 : decode cX1_witnesses 45 = .ok (.ireturn, 1) := by decide +kernel
set_option maxRecDepth 20000 in
theorem ggX1_isScorned_X1_witnesses : GoodIn wsX1_isScorned wsX1_witnesses := goodIn_r _ [6, 1, 7, 8, 9, 10] (by decide +kernel) (by decide +kernel)
set_option maxRecDepth 20000 in
theorem gX1_isScorned_X1_witnesses : GoodIn wsX1_isScorned (wsV RX1 30 RX1 yX1_witnesses wsX1_witnesses) := goodIn_app (goodIn_of _ (by decide +kernel)) ggX1_isScorned_X1_witnesses
theorem dX1_isScorned_0 : decode cX1_isScorned 0 = .ok (.iload_n 2, 1) := by decide +kernel
theorem dX1_isScorned_1 : decode cX1_isScorned 1 = .ok (.istore_n 3, 1) := by decide +kernel
theorem dX1_isScorned_2 : decode cX1_isScorned 2 = .ok (.aload_n 0, 1) := by decide +kernel
theorem dX1_isScorned_3 : decode cX1_isScorned 3 = .ok (.aload_n 1, 1) := by decide +kernel
theorem dX1_isScorned_4 : decode cX1_isScorned 4 = .ok (.invokevirtual 30, 3) := by decide +kernel
theorem dX1_isScorned_7 : decode cX1_isScorned 7 = .ok (.istore 4, 2) := by decide +kernel
theorem dX1_isScorned_9 : decode cX1_isScorned 9 = .ok (.iload 4, 2) := by decide +kernel
theorem dX1_isScorned_11 : decode cX1_isScorned 11 = .ok (.ifCond .le 12, 3) := by decide +kernel
theorem dX1_isScorned_14 : decode cX1_isScorned 14 = .ok (.iinc 3 2, 3) := by decide +kernel
theorem dX1_isScorned_17 : decode cX1_isScorned 17 = .ok (.iinc 4 (-1), 3) := by decide +kernel
theorem dX1_isScorned_20 : decode cX1_isScorned 20 = .ok (.goto (-11), 3) := by decide +kernel
theorem dX1_isScorned_23 : decode cX1_isScorned 23 = .ok (.iload_n 3, 1) := by decide +kernel
theorem dX1_isScorned_24 : decode cX1_isScorned 24 = .ok (.aload_n 0, 1) := by decide +kernel
theorem dX1_isScorned_25 : decode cX1_isScorned 25 = .ok (.getfield 9, 3) := by decide +kernel
theorem dX1_isScorned_28 : decode cX1_isScorned 28 = .ok (.aload_n 1, 1) := by decide +kernel
theorem dX1_isScorned_29 : decode cX1_isScorned 29 = .ok (.iconst 1, 1) := by decide +kernel
theorem dX1_isScorned_30 : decode cX1_isScorned 30 = .ok (.iaload, 1) := by decide +kernel
theorem dX1_isScorned_31 : decode cX1_isScorned 31 = .ok (.aaload, 1) := by decide +kernel
theorem dX1_isScorned_32 : decode cX1_isScorned 32 = .ok (.iconst 0, 1) := by decide +kernel
theorem dX1_isScorned_33 : decode cX1_isScorned 33 = .ok (.iaload, 1) := by decide +kernel
theorem dX1_isScorned_34 : decode cX1_isScorned 34 = .ok (.if_icmp .lt 12, 3) := by decide +kernel
theorem dX1_isScorned_37 : decode cX1_isScorned 37 = .ok (.iload_n 3, 1) := by decide +kernel
theorem dX1_isScorned_38 : decode cX1_isScorned 38 = .ok (.aload_n 1, 1) := by decide +kernel
theorem dX1_isScorned_39 : decode cX1_isScorned 39 = .ok (.iconst 2, 1) := by decide +kernel
theorem dX1_isScorned_40 : decode cX1_isScorned 40 = .ok (.iaload, 1) := by decide +kernel
theorem dX1_isScorned_41 : decode cX1_isScorned 41 = .ok (.iconst 4, 1) := by decide +kernel
theorem dX1_isScorned_42 : decode cX1_isScorned 42 = .ok (.idiv, 1) := by decide +kernel
theorem dX1_isScorned_43 : decode cX1_isScorned 43 = .ok (.if_icmp .ge 7, 3) := by decide +kernel
theorem dX1_isScorned_46 : decode cX1_isScorned 46 = .ok (.iconst 1, 1) := by decide +kernel
theorem dX1_isScorned_47 : decode cX1_isScorned 47 = .ok (.goto 4, 3) := by decide +kernel
theorem dX1_isScorned_50 : decode cX1_isScorned 50 = .ok (.iconst 0, 1) := by decide +kernel
theorem dX1_isScorned_51 : decode cX1_isScorned 51 = .ok (.ireturn, 1) := by decide +kernel
set_option maxRecDepth 20000 in
theorem ggX1_apologize_X1_isScorned : GoodIn wsX1_apologize wsX1_isScorned := goodIn_r _ [6, 7, 8, 9, 10, 5, 11, 16, 17, 18, 19] (by decide +kernel) (by decide +kernel)
set_option maxRecDepth 20000 in
theorem gX1_apologize_X1_isScorned : GoodIn wsX1_apologize (wsV RX1 34 RX1 yX1_isScorned wsX1_isScorned) := goodIn_app (goodIn_of _ (by decide +kernel)) ggX1_apologize_X1_isScorned
set_option maxRecDepth 20000 in
theorem ggX1_apologize_X1_speak : GoodIn wsX1_apologize wsX1_speak := goodIn_r _ [15] (by decide +kernel) (by decide +kernel)
set_option maxRecDepth 20000 in
theorem gX1_apologize_X1_speak : GoodIn wsX1_apologize (wsV RX1 38 RX1 yX1_speak wsX1_speak) := goodIn_app (goodIn_of _ (by decide +kernel)) ggX1_apologize_X1_speak
set_option maxRecDepth 20000 in
theorem ggX1_apologize_X1_witnesses : GoodIn wsX1_apologize wsX1_witnesses := goodIn_r _ [11, 7, 16, 17, 18, 19] (by decide +kernel) (by decide +kernel)
set_option maxRecDepth 20000 in
theorem gX1_apologize_X1_witnesses : GoodIn wsX1_apologize (wsV RX1 30 RX1 yX1_witnesses wsX1_witnesses) := goodIn_app (goodIn_of _ (by decide +kernel)) ggX1_apologize_X1_witnesses
theorem dX1_apologize_0 : decode cX1_apologize 0 = .ok (.aload_n 0, 1) := by decide +kernel
theorem dX1_apologize_1 : decode cX1_apologize 1 = .ok (.aload_n 1, 1) := by decide +kernel
theorem dX1_apologize_2 : decode cX1_apologize 2 = .ok (.iload_n 2, 1) := by decide +kernel
theorem dX1_apologize_3 : decode cX1_apologize 3 = .ok (.invokevirtual 34, 3) := by decide +kernel
theorem dX1_apologize_6 : decode cX1_apologize 6 = .ok (.ifCond .eq 22, 3) := by decide +kernel
theorem dX1_apologize_9 : decode cX1_apologize 9 = .ok (.aload_n 0, 1) := by decide +kernel
theorem dX1_apologize_10 : decode cX1_apologize 10 = .ok (.dup, 1) := by decide +kernel
theorem dX1_apologize_11 : decode cX1_apologize 11 = .ok (.getfield 27, 3) := by decide +kernel
theorem dX1_apologize_14 : decode cX1_apologize 14 = .ok (.iconst 1, 1) := by decide +kernel
theorem dX1_apologize_15 : decode cX1_apologize 15 = .ok (.iadd, 1) := by decide +kernel
theorem dX1_apologize_16 : decode cX1_apologize 16 = .ok (.putfield 27, 3) := by decide +kernel
theorem dX1_apologize_19 : decode cX1_apologize 19 = .ok (.aload_n 0, 1) := by decide +kernel
theorem dX1_apologize_20 : decode cX1_apologize 20 = .ok (.aload_n 1, 1) := by decide +kernel
theorem dX1_apologize_21 : decode cX1_apologize 21 = .ok (.invokevirtual 38, 3) := by decide +kernel
theorem dX1_apologize_24 : decode cX1_apologize 24 = .ok (.aload_n 1, 1) := by decide +kernel
theorem dX1_apologize_25 : decode cX1_apologize 25 = .ok (.iconst 2, 1) := by decide +kernel
theorem dX1_apologize_26 : decode cX1_apologize 26 = .ok (.iaload, 1) := by decide +kernel
theorem dX1_apologize_27 : decode cX1_apologize 27 = .ok (.ireturn, 1) := by decide +kernel
theorem dX1_apologize_28 : decode cX1_apologize 28 = .ok (.aload_n 1, 1) := by decide +kernel
theorem dX1_apologize_29 : decode cX1_apologize 29 = .ok (.iconst 2, 1) := by decide +kernel
theorem dX1_apologize_30 : decode cX1_apologize 30 = .ok (.dup2, 1) := by decide +kernel
theorem dX1_apologize_31 : decode cX1_apologize 31 = .ok (.iaload, 1) := by decide +kernel
theorem dX1_apologize_32 : decode cX1_apologize 32 = .ok (.iload_n 2, 1) := by decide +kernel
theorem dX1_apologize_33 : decode cX1_apologize 33 = .ok (.iconst 2, 1) := by decide +kernel
theorem dX1_apologize_34 : decode cX1_apologize 34 = .ok (.aload_n 0, 1) := by decide +kernel
theorem dX1_apologize_35 : decode cX1_apologize 35 = .ok (.aload_n 1, 1) := by decide +kernel
theorem dX1_apologize_36 : decode cX1_apologize 36 = .ok (.invokevirtual 30, 3) := by decide +kernel
theorem dX1_apologize_39 : decode cX1_apologize 39 = .ok (.imul, 1) := by decide +kernel
theorem dX1_apologize_40 : decode cX1_apologize 40 = .ok (.iadd, 1) := by decide +kernel
theorem dX1_apologize_41 : decode cX1_apologize 41 = .ok (.isub, 1) := by decide +kernel
theorem dX1_apologize_42 : decode cX1_apologize 42 = .ok (.iastore, 1) := by decide +kernel
theorem dX1_apologize_43 : decode cX1_apologize 43 = .ok (.aload_n 1, 1) := by decide +kernel
theorem dX1_apologize_44 : decode cX1_apologize 44 = .ok (.iconst 2, 1) := by decide +kernel
theorem dX1_apologize_45 : decode cX1_apologize 45 = .ok (.iaload, 1) := by decide +kernel
theorem dX1_apologize_46 : decode cX1_apologize 46 = .ok (.ifCond .le 7, 3) := by decide +kernel
theorem dX1_apologize_49 : decode cX1_apologize 49 = .ok (.aload_n 1, 1) := by decide +kernel
theorem dX1_apologize_50 : decode cX1_apologize 50 = .ok (.iconst 2, 1) := by decide +kernel
theorem dX1_apologize_51 : decode cX1_apologize 51 = .ok (.iaload, 1) := by decide +kernel
theorem dX1_apologize_52 : decode cX1_apologize 52 = .ok (.ireturn, 1) := by decide +kernel
theorem dX1_apologize_53 : decode cX1_apologize 53 = .ok (.aload_n 1, 1) := by decide +kernel
theorem dX1_apologize_54 : decode cX1_apologize 54 = .ok (.iconst 2, 1) := by decide +kernel
theorem dX1_apologize_55 : decode cX1_apologize 55 = .ok (.iconst 0, 1) := by decide +kernel
theorem dX1_apologize_56 : decode cX1_apologize 56 = .ok (.iastore, 1) := by decide +kernel
theorem dX1_apologize_57 : decode cX1_apologize 57 = .ok (.aload_n 1, 1) := by decide +kernel
theorem dX1_apologize_58 : decode cX1_apologize 58 = .ok (.iconst 3, 1) := by decide +kernel
theorem dX1_apologize_59 : decode cX1_apologize 59 = .ok (.iconst 1, 1) := by decide +kernel
theorem dX1_apologize_60 : decode cX1_apologize 60 = .ok (.iastore, 1) := by decide +kernel
theorem dX1_apologize_61 : decode cX1_apologize 61 = .ok (.iconst 0, 1) := by decide +kernel
theorem dX1_apologize_62 : decode cX1_apologize 62 = .ok (.ireturn, 1) := by decide +kernel
theorem dX1_areOpposite_0 : decode cX1_areOpposite 0 = .ok (.aload_n 1, 1) := by decide +kernel
theorem dX1_areOpposite_1 : decode cX1_areOpposite 1 = .ok (.iconst 3, 1) := by decide +kernel
theorem dX1_areOpposite_2 : decode cX1_areOpposite 2 = .ok (.iaload, 1) := by decide +kernel
theorem dX1_areOpposite_3 : decode cX1_areOpposite 3 = .ok (.ifCond .ne 31, 3) := by decide +kernel
theorem dX1_areOpposite_6 : decode cX1_areOpposite 6 = .ok (.aload_n 2, 1) := by decide +kernel
theorem dX1_areOpposite_7 : decode cX1_areOpposite 7 = .ok (.iconst 3, 1) := by decide +kernel
theorem dX1_areOpposite_8 : decode cX1_areOpposite 8 = .ok (.iaload, 1) := by decide +kernel
theorem dX1_areOpposite_9 : decode cX1_areOpposite 9 = .ok (.ifCond .ne 25, 3) := by decide +kernel
theorem dX1_areOpposite_12 : decode cX1_areOpposite 12 = .ok (.aload_n 1, 1) := by decide +kernel
theorem dX1_areOpposite_13 : decode cX1_areOpposite 13 = .ok (.iconst 0, 1) := by decide +kernel
theorem dX1_areOpposite_14 : decode cX1_areOpposite 14 = .ok (.iaload, 1) := by decide +kernel
theorem dX1_areOpposite_15 : decode cX1_areOpposite 15 = .ok (.aload_n 2, 1) := by decide +kernel
theorem dX1_areOpposite_16 : decode cX1_areOpposite 16 = .ok (.iconst 1, 1) := by decide +kernel
theorem dX1_areOpposite_17 : decode cX1_areOpposite 17 = .ok (.iaload, 1) := by decide +kernel
theorem dX1_areOpposite_18 : decode cX1_areOpposite 18 = .ok (.if_icmp .ne 16, 3) := by decide +kernel
theorem dX1_areOpposite_21 : decode cX1_areOpposite 21 = .ok (.aload_n 1, 1) := by decide +kernel
theorem dX1_areOpposite_22 : decode cX1_areOpposite 22 = .ok (.iconst 1, 1) := by decide +kernel
theorem dX1_areOpposite_23 : decode cX1_areOpposite 23 = .ok (.iaload, 1) := by decide +kernel
theorem dX1_areOpposite_24 : decode cX1_areOpposite 24 = .ok (.aload_n 2, 1) := by decide +kernel
theorem dX1_areOpposite_25 : decode cX1_areOpposite 25 = .ok (.iconst 0, 1) := by decide +kernel
theorem dX1_areOpposite_26 : decode cX1_areOpposite 26 = .ok (.iaload, 1) := by decide +kernel
theorem dX1_areOpposite_27 : decode cX1_areOpposite 27 = .ok (.if_icmp .ne 7, 3) := by decide +kernel
theorem dX1_areOpposite_30 : decode cX1_areOpposite 30 = .ok (.iconst 1, 1) := by decide +kernel
theorem dX1_areOpposite_31 : decode cX1_areOpposite 31 = .ok (.goto 4, 3) := by decide +kernel
theorem dX1_areOpposite_34 : decode cX1_areOpposite 34 = .ok (.iconst 0, 1) := by decide +kernel
theorem dX1_areOpposite_35 : decode cX1_areOpposite 35 = .ok (.ireturn, 1) := by decide +kernel
theorem dX1_setOff_0 : decode cX1_setOff 0 = .ok (.aload_n 1, 1) := by decide +kernel
theorem dX1_setOff_1 : decode cX1_setOff 1 = .ok (.iconst 2, 1) := by decide +kernel
theorem dX1_setOff_2 : decode cX1_setOff 2 = .ok (.iaload, 1) := by decide +kernel
theorem dX1_setOff_3 : decode cX1_setOff 3 = .ok (.aload_n 2, 1) := by decide +kernel
theorem dX1_setOff_4 : decode cX1_setOff 4 = .ok (.iconst 2, 1) := by decide +kernel
theorem dX1_setOff_5 : decode cX1_setOff 5 = .ok (.iaload, 1) := by decide +kernel
theorem dX1_setOff_6 : decode cX1_setOff 6 = .ok (.if_icmp .ge 9, 3) := by decide +kernel
theorem dX1_setOff_9 : decode cX1_setOff 9 = .ok (.aload_n 1, 1) := by decide +kernel
theorem dX1_setOff_10 : decode cX1_setOff 10 = .ok (.iconst 2, 1) := by decide +kernel
theorem dX1_setOff_11 : decode cX1_setOff 11 = .ok (.iaload, 1) := by decide +kernel
theorem dX1_setOff_12 : decode cX1_setOff 12 = .ok (.goto 6, 3) := by decide +kernel
theorem dX1_setOff_15 : decode cX1_setOff 15 = .ok (.aload_n 2, 1) := by decide +kernel
theorem dX1_setOff_16 : decode cX1_setOff 16 = .ok (.iconst 2, 1) := by decide +kernel
theorem dX1_setOff_17 : decode cX1_setOff 17 = .ok (.iaload, 1) := by decide +kernel
theorem dX1_setOff_18 : decode cX1_setOff 18 = .ok (.istore_n 3, 1) := by decide +kernel
theorem dX1_setOff_19 : decode cX1_setOff 19 = .ok (.aload_n 1, 1) := by decide +kernel
theorem dX1_setOff_20 : decode cX1_setOff 20 = .ok (.iconst 2, 1) := by decide +kernel
theorem dX1_setOff_21 : decode cX1_setOff 21 = .ok (.dup2, 1) := by decide +kernel
theorem dX1_setOff_22 : decode cX1_setOff 22 = .ok (.iaload, 1) := by decide +kernel
theorem dX1_setOff_23 : decode cX1_setOff 23 = .ok (.iload_n 3, 1) := by decide +kernel
theorem dX1_setOff_24 : decode cX1_setOff 24 = .ok (.isub, 1) := by decide +kernel
theorem dX1_setOff_25 : decode cX1_setOff 25 = .ok (.iastore, 1) := by decide +kernel
theorem dX1_setOff_26 : decode cX1_setOff 26 = .ok (.aload_n 2, 1) := by decide +kernel
theorem dX1_setOff_27 : decode cX1_setOff 27 = .ok (.iconst 2, 1) := by decide +kernel
theorem dX1_setOff_28 : decode cX1_setOff 28 = .ok (.dup2, 1) := by decide +kernel
theorem dX1_setOff_29 : decode cX1_setOff 29 = .ok (.iaload, 1) := by decide +kernel
theorem dX1_setOff_30 : decode cX1_setOff 30 = .ok (.iload_n 3, 1) := by decide +kernel
theorem dX1_setOff_31 : decode cX1_setOff 31 = .ok (.isub, 1) := by decide +kernel
theorem dX1_setOff_32 : decode cX1_setOff 32 = .ok (.iastore, 1) := by decide +kernel
theorem dX1_setOff_33 : decode cX1_setOff 33 = .ok (.aload_n 1, 1) := by decide +kernel
theorem dX1_setOff_34 : decode cX1_setOff 34 = .ok (.iconst 2, 1) := by decide +kernel
theorem dX1_setOff_35 : decode cX1_setOff 35 = .ok (.iaload, 1) := by decide +kernel
theorem dX1_setOff_36 : decode cX1_setOff 36 = .ok (.ifCond .ne 7, 3) := by decide +kernel
theorem dX1_setOff_39 : decode cX1_setOff 39 = .ok (.aload_n 1, 1) := by decide +kernel
theorem dX1_setOff_40 : decode cX1_setOff 40 = .ok (.iconst 3, 1) := by decide +kernel
theorem dX1_setOff_41 : decode cX1_setOff 41 = .ok (.iconst 3, 1) := by decide +kernel
theorem dX1_setOff_42 : decode cX1_setOff 42 = .ok (.iastore, 1) := by decide +kernel
theorem dX1_setOff_43 : decode cX1_setOff 43 = .ok (.aload_n 2, 1) := by decide +kernel
theorem dX1_setOff_44 : decode cX1_setOff 44 = .ok (.iconst 2, 1) := by decide +kernel
theorem dX1_setOff_45 : decode cX1_setOff 45 = .ok (.iaload, 1) := by decide +kernel
theorem dX1_setOff_46 : decode cX1_setOff 46 = .ok (.ifCond .ne 7, 3) := by decide +kernel
theorem dX1_setOff_49 : decode cX1_setOff 49 = .ok (.aload_n 2, 1) := by decide +kernel
theorem dX1_setOff_50 : decode cX1_setOff 50 = .ok (.iconst 3, 1) := by decide +kernel
theorem dX1_setOff_51 : decode cX1_setOff 51 = .ok (.iconst 3, 1) := by decide +kernel
theorem dX1_setOff_52 : decode cX1_setOff 52 = .ok (.iastore, 1) := by decide +kernel
theorem dX1_setOff_53 : decode cX1_setOff 53 = .ok (.iload_n 3, 1) := by decide +kernel
theorem dX1_setOff_54 : decode cX1_setOff 54 = .ok (.ireturn, 1) := by decide +kernel
theorem dX1_pass_0 : decode cX1_pass 0 = .ok (.iconst 0, 1) := by decide +kernel
theorem dX1_pass_1 : decode cX1_pass 1 = .ok (.istore_n 1, 1) := by decide +kernel
theorem dX1_pass_2 : decode cX1_pass 2 = .ok (.aload_n 0, 1) := by decide +kernel
theorem dX1_pass_3 : decode cX1_pass 3 = .ok (.getfield 15, 3) := by decide +kernel
theorem dX1_pass_6 : decode cX1_pass 6 = .ok (.astore_n 2, 1) := by decide +kernel
theorem dX1_pass_7 : decode cX1_pass 7 = .ok (.aload_n 2, 1) := by decide +kernel
theorem dX1_pass_8 : decode cX1_pass 8 = .ok (.arraylength, 1) := by decide +kernel
theorem dX1_pass_9 : decode cX1_pass 9 = .ok (.istore_n 3, 1) := by decide +kernel
theorem dX1_pass_10 : decode cX1_pass 10 = .ok (.iconst 0, 1) := by decide +kernel
theorem dX1_pass_11 : decode cX1_pass 11 = .ok (.istore 4, 2) := by decide +kernel
theorem dX1_pass_13 : decode cX1_pass 13 = .ok (.iload 4, 2) := by decide +kernel
theorem dX1_pass_15 : decode cX1_pass 15 = .ok (.iload_n 3, 1) := by decide +kernel
theorem dX1_pass_16 : decode cX1_pass 16 = .ok (.if_icmp .ge 117, 3) := by decide +kernel
theorem dX1_pass_19 : decode cX1_pass 19 = .ok (.aload_n 2, 1) := by decide +kernel
theorem dX1_pass_20 : decode cX1_pass 20 = .ok (.iload 4, 2) := by decide +kernel
theorem dX1_pass_22 : decode cX1_pass 22 = .ok (.aaload, 1) := by decide +kernel
theorem dX1_pass_23 : decode cX1_pass 23 = .ok (.astore 5, 2) := by decide +kernel
theorem dX1_pass_25 : decode cX1_pass 25 = .ok (.aload 5, 2) := by decide +kernel
theorem dX1_pass_27 : decode cX1_pass 27 = .ok (.iconst 3, 1) := by decide +kernel
theorem dX1_pass_28 : decode cX1_pass 28 = .ok (.iaload, 1) := by decide +kernel
theorem dX1_pass_29 : decode cX1_pass 29 = .ok (.ifCond .le 6, 3) := by decide +kernel
theorem dX1_pass_32 : decode cX1_pass 32 = .ok (.goto 95, 3) := by decide +kernel
theorem dX1_pass_35 : decode cX1_pass 35 = .ok (.aload 5, 2) := by decide +kernel
theorem dX1_pass_37 : decode cX1_pass 37 = .ok (.iconst 4, 1) := by decide +kernel
theorem dX1_pass_38 : decode cX1_pass 38 = .ok (.dup2, 1) := by decide +kernel
theorem dX1_pass_39 : decode cX1_pass 39 = .ok (.iaload, 1) := by decide +kernel
theorem dX1_pass_40 : decode cX1_pass 40 = .ok (.iconst 1, 1) := by decide +kernel
theorem dX1_pass_41 : decode cX1_pass 41 = .ok (.iadd, 1) := by decide +kernel
theorem dX1_pass_42 : decode cX1_pass 42 = .ok (.iastore, 1) := by decide +kernel
theorem dX1_pass_43 : decode cX1_pass 43 = .ok (.aload 5, 2) := by decide +kernel
theorem dX1_pass_45 : decode cX1_pass 45 = .ok (.iconst 5, 1) := by decide +kernel
theorem dX1_pass_46 : decode cX1_pass 46 = .ok (.dup2, 1) := by decide +kernel
theorem dX1_pass_47 : decode cX1_pass 47 = .ok (.iaload, 1) := by decide +kernel
theorem dX1_pass_48 : decode cX1_pass 48 = .ok (.iconst 1, 1) := by decide +kernel
theorem dX1_pass_49 : decode cX1_pass 49 = .ok (.iadd, 1) := by decide +kernel
theorem dX1_pass_50 : decode cX1_pass 50 = .ok (.iastore, 1) := by decide +kernel
theorem dX1_pass_51 : decode cX1_pass 51 = .ok (.aload 5, 2) := by decide +kernel
theorem dX1_pass_53 : decode cX1_pass 53 = .ok (.iconst 4, 1) := by decide +kernel
theorem dX1_pass_54 : decode cX1_pass 54 = .ok (.iaload, 1) := by decide +kernel
theorem dX1_pass_55 : decode cX1_pass 55 = .ok (.iconst 5, 1) := by decide +kernel
theorem dX1_pass_56 : decode cX1_pass 56 = .ok (.irem, 1) := by decide +kernel
theorem dX1_pass_57 : decode cX1_pass 57 = .ok (.ifCond .ne 30, 3) := by decide +kernel
theorem dX1_pass_60 : decode cX1_pass 60 = .ok (.aload 5, 2) := by decide +kernel
theorem dX1_pass_62 : decode cX1_pass 62 = .ok (.iconst 2, 1) := by decide +kernel
theorem dX1_pass_63 : decode cX1_pass 63 = .ok (.dup2, 1) := by decide +kernel
theorem dX1_pass_64 : decode cX1_pass 64 = .ok (.iaload, 1) := by decide +kernel
theorem dX1_pass_65 : decode cX1_pass 65 = .ok (.aload 5, 2) := by decide +kernel
theorem dX1_pass_67 : decode cX1_pass 67 = .ok (.iconst 2, 1) := by decide +kernel
theorem dX1_pass_68 : decode cX1_pass 68 = .ok (.iaload, 1) := by decide +kernel
theorem dX1_pass_69 : decode cX1_pass 69 = .ok (.bipush 20, 2) := by decide +kernel
theorem dX1_pass_71 : decode cX1_pass 71 = .ok (.if_icmp .ge 7, 3) := by decide +kernel
theorem dX1_pass_74 : decode cX1_pass 74 = .ok (.iconst 1, 1) := by decide +kernel
theorem dX1_pass_75 : decode cX1_pass 75 = .ok (.goto 10, 3) := by decide +kernel
theorem dX1_pass_78 : decode cX1_pass 78 = .ok (.aload 5, 2) := by decide +kernel
theorem dX1_pass_80 : decode cX1_pass 80 = .ok (.iconst 2, 1) := by decide +kernel
theorem dX1_pass_81 : decode cX1_pass 81 = .ok (.iaload, 1) := by decide +kernel
theorem dX1_pass_82 : decode cX1_pass 82 = .ok (.bipush 10, 2) := by decide +kernel
theorem dX1_pass_84 : decode cX1_pass 84 = .ok (.idiv, 1) := by decide +kernel
theorem dX1_pass_85 : decode cX1_pass 85 = .ok (.iadd, 1) := by decide +kernel
theorem dX1_pass_86 : decode cX1_pass 86 = .ok (.iastore, 1) := by decide +kernel
theorem dX1_pass_87 : decode cX1_pass 87 = .ok (.aload 5, 2) := by decide +kernel
theorem dX1_pass_89 : decode cX1_pass 89 = .ok (.iconst 2, 1) := by decide +kernel
theorem dX1_pass_90 : decode cX1_pass 90 = .ok (.iaload, 1) := by decide +kernel
theorem dX1_pass_91 : decode cX1_pass 91 = .ok (.bipush 99, 2) := by decide +kernel
theorem dX1_pass_93 : decode cX1_pass 93 = .ok (.if_icmp .le 9, 3) := by decide +kernel
theorem dX1_pass_96 : decode cX1_pass 96 = .ok (.aload 5, 2) := by decide +kernel
theorem dX1_pass_98 : decode cX1_pass 98 = .ok (.iconst 2, 1) := by decide +kernel
theorem dX1_pass_99 : decode cX1_pass 99 = .ok (.bipush 99, 2) := by decide +kernel
theorem dX1_pass_101 : decode cX1_pass 101 = .ok (.iastore, 1) := by decide +kernel
theorem dX1_pass_102 : decode cX1_pass 102 = .ok (.aload 5, 2) := by decide +kernel
theorem dX1_pass_104 : decode cX1_pass 104 = .ok (.iconst 5, 1) := by decide +kernel
theorem dX1_pass_105 : decode cX1_pass 105 = .ok (.iaload, 1) := by decide +kernel
theorem dX1_pass_106 : decode cX1_pass 106 = .ok (.bipush 30, 2) := by decide +kernel
theorem dX1_pass_108 : decode cX1_pass 108 = .ok (.if_icmp .ge 6, 3) := by decide +kernel
theorem dX1_pass_111 : decode cX1_pass 111 = .ok (.goto 16, 3) := by decide +kernel
theorem dX1_pass_114 : decode cX1_pass 114 = .ok (.aload 5, 2) := by decide +kernel
theorem dX1_pass_116 : decode cX1_pass 116 = .ok (.iconst 2, 1) := by decide +kernel
theorem dX1_pass_117 : decode cX1_pass 117 = .ok (.iconst 0, 1) := by decide +kernel
theorem dX1_pass_118 : decode cX1_pass 118 = .ok (.iastore, 1) := by decide +kernel
theorem dX1_pass_119 : decode cX1_pass 119 = .ok (.aload 5, 2) := by decide +kernel
theorem dX1_pass_121 : decode cX1_pass 121 = .ok (.iconst 3, 1) := by decide +kernel
theorem dX1_pass_122 : decode cX1_pass 122 = .ok (.iconst 2, 1) := by decide +kernel
theorem dX1_pass_123 : decode cX1_pass 123 = .ok (.iastore, 1) := by decide +kernel
theorem dX1_pass_124 : decode cX1_pass 124 = .ok (.iinc 1 1, 3) := by decide +kernel
theorem dX1_pass_127 : decode cX1_pass 127 = .ok (.iinc 4 1, 3) := by decide +kernel
theorem dX1_pass_130 : decode cX1_pass 130 = .ok (.goto (-117), 3) := by decide +kernel
theorem dX1_pass_133 : decode cX1_pass 133 = .ok (.aload_n 0, 1) := by decide +kernel
theorem dX1_pass_134 : decode cX1_pass 134 = .ok (.dup, 1) := by decide +kernel
theorem dX1_pass_135 : decode cX1_pass 135 = .ok (.getfield 23, 3) := by decide +kernel
theorem dX1_pass_138 : decode cX1_pass 138 = .ok (.iconst 1, 1) := by decide +kernel
theorem dX1_pass_139 : decode cX1_pass 139 = .ok (.iadd, 1) := by decide +kernel
theorem dX1_pass_140 : decode cX1_pass 140 = .ok (.putfield 23, 3) := by decide +kernel
theorem dX1_pass_143 : decode cX1_pass 143 = .ok (.iload_n 1, 1) := by decide +kernel
theorem dX1_pass_144 : decode cX1_pass 144 = .ok (.ireturn, 1) := by decide +kernel
set_option maxRecDepth 20000 in
theorem ggX1_pass__X1_pass : GoodIn wsX1_pass_ wsX1_pass := goodIn_r _ [5, 6, 7, 8, 9, 10, 11] (by decide +kernel) (by decide +kernel)
set_option maxRecDepth 20000 in
theorem gX1_pass__X1_pass : GoodIn wsX1_pass_ (wsV RX1 42 RX1 yX1_pass wsX1_pass) := goodIn_app (goodIn_of _ (by decide +kernel)) ggX1_pass__X1_pass
theorem dX1_pass__0 : decode cX1_pass_ 0 = .ok (.iconst 0, 1) := by decide +kernel
theorem dX1_pass__1 : decode cX1_pass_ 1 = .ok (.istore_n 2, 1) := by decide +kernel
theorem dX1_pass__2 : decode cX1_pass_ 2 = .ok (.iconst 0, 1) := by decide +kernel
theorem dX1_pass__3 : decode cX1_pass_ 3 = .ok (.istore_n 3, 1) := by decide +kernel
theorem dX1_pass__4 : decode cX1_pass_ 4 = .ok (.iload_n 3, 1) := by decide +kernel
theorem dX1_pass__5 : decode cX1_pass_ 5 = .ok (.iload_n 1, 1) := by decide +kernel
theorem dX1_pass__6 : decode cX1_pass_ 6 = .ok (.if_icmp .ge 16, 3) := by decide +kernel
theorem dX1_pass__9 : decode cX1_pass_ 9 = .ok (.iload_n 2, 1) := by decide +kernel
theorem dX1_pass__10 : decode cX1_pass_ 10 = .ok (.aload_n 0, 1) := by decide +kernel
theorem dX1_pass__11 : decode cX1_pass_ 11 = .ok (.invokevirtual 42, 3) := by decide +kernel
theorem dX1_pass__14 : decode cX1_pass_ 14 = .ok (.iadd, 1) := by decide +kernel
theorem dX1_pass__15 : decode cX1_pass_ 15 = .ok (.istore_n 2, 1) := by decide +kernel
theorem dX1_pass__16 : decode cX1_pass_ 16 = .ok (.iinc 3 1, 3) := by decide +kernel
theorem dX1_pass__19 : decode cX1_pass_ 19 = .ok (.goto (-15), 3) := by decide +kernel
theorem dX1_pass__22 : decode cX1_pass_ 22 = .ok (.iload_n 2, 1) := by decide +kernel
theorem dX1_pass__23 : decode cX1_pass_ 23 = .ok (.ireturn, 1) := by decide +kernel
theorem dX1_done_0 : decode cX1_done 0 = .ok (.iconst 0, 1) := by decide +kernel
theorem dX1_done_1 : decode cX1_done 1 = .ok (.istore_n 3, 1) := by decide +kernel
theorem dX1_done_2 : decode cX1_done 2 = .ok (.aload_n 0, 1) := by decide +kernel
theorem dX1_done_3 : decode cX1_done 3 = .ok (.getfield 15, 3) := by decide +kernel
theorem dX1_done_6 : decode cX1_done 6 = .ok (.astore 4, 2) := by decide +kernel
theorem dX1_done_8 : decode cX1_done 8 = .ok (.aload 4, 2) := by decide +kernel
theorem dX1_done_10 : decode cX1_done 10 = .ok (.arraylength, 1) := by decide +kernel
theorem dX1_done_11 : decode cX1_done 11 = .ok (.istore 5, 2) := by decide +kernel
theorem dX1_done_13 : decode cX1_done 13 = .ok (.iconst 0, 1) := by decide +kernel
theorem dX1_done_14 : decode cX1_done 14 = .ok (.istore 6, 2) := by decide +kernel
theorem dX1_done_16 : decode cX1_done 16 = .ok (.iload 6, 2) := by decide +kernel
theorem dX1_done_18 : decode cX1_done 18 = .ok (.iload 5, 2) := by decide +kernel
theorem dX1_done_20 : decode cX1_done 20 = .ok (.if_icmp .ge 47, 3) := by decide +kernel
theorem dX1_done_23 : decode cX1_done 23 = .ok (.aload 4, 2) := by decide +kernel
theorem dX1_done_25 : decode cX1_done 25 = .ok (.iload 6, 2) := by decide +kernel
theorem dX1_done_27 : decode cX1_done 27 = .ok (.aaload, 1) := by decide +kernel
theorem dX1_done_28 : decode cX1_done 28 = .ok (.astore 7, 2) := by decide +kernel
theorem dX1_done_30 : decode cX1_done 30 = .ok (.iload_n 1, 1) := by decide +kernel
theorem dX1_done_31 : decode cX1_done 31 = .ok (.ifCond .lt 11, 3) := by decide +kernel
theorem dX1_done_34 : decode cX1_done 34 = .ok (.aload 7, 2) := by decide +kernel
theorem dX1_done_36 : decode cX1_done 36 = .ok (.iconst 0, 1) := by decide +kernel
theorem dX1_done_37 : decode cX1_done 37 = .ok (.iaload, 1) := by decide +kernel
theorem dX1_done_38 : decode cX1_done 38 = .ok (.iload_n 1, 1) := by decide +kernel
theorem dX1_done_39 : decode cX1_done 39 = .ok (.if_icmp .ne 22, 3) := by decide +kernel
theorem dX1_done_42 : decode cX1_done 42 = .ok (.iload_n 2, 1) := by decide +kernel
theorem dX1_done_43 : decode cX1_done 43 = .ok (.ifCond .lt 11, 3) := by decide +kernel
theorem dX1_done_46 : decode cX1_done 46 = .ok (.aload 7, 2) := by decide +kernel
theorem dX1_done_48 : decode cX1_done 48 = .ok (.iconst 1, 1) := by decide +kernel
theorem dX1_done_49 : decode cX1_done 49 = .ok (.iaload, 1) := by decide +kernel
theorem dX1_done_50 : decode cX1_done 50 = .ok (.iload_n 2, 1) := by decide +kernel
theorem dX1_done_51 : decode cX1_done 51 = .ok (.if_icmp .ne 10, 3) := by decide +kernel
theorem dX1_done_54 : decode cX1_done 54 = .ok (.iload_n 3, 1) := by decide +kernel
theorem dX1_done_55 : decode cX1_done 55 = .ok (.aload 7, 2) := by decide +kernel
theorem dX1_done_57 : decode cX1_done 57 = .ok (.iconst 2, 1) := by decide +kernel
theorem dX1_done_58 : decode cX1_done 58 = .ok (.iaload, 1) := by decide +kernel
theorem dX1_done_59 : decode cX1_done 59 = .ok (.iadd, 1) := by decide +kernel
theorem dX1_done_60 : decode cX1_done 60 = .ok (.istore_n 3, 1) := by decide +kernel
theorem dX1_done_61 : decode cX1_done 61 = .ok (.iinc 6 1, 3) := by decide +kernel
theorem dX1_done_64 : decode cX1_done 64 = .ok (.goto (-48), 3) := by decide +kernel
theorem dX1_done_67 : decode cX1_done 67 = .ok (.iload_n 3, 1) := by decide +kernel
theorem dX1_done_68 : decode cX1_done 68 = .ok (.ireturn, 1) := by decide +kernel
theorem dX1_count_0 : decode cX1_count 0 = .ok (.iconst 0, 1) := by decide +kernel
theorem dX1_count_1 : decode cX1_count 1 = .ok (.istore_n 2, 1) := by decide +kernel
theorem dX1_count_2 : decode cX1_count 2 = .ok (.aload_n 0, 1) := by decide +kernel
theorem dX1_count_3 : decode cX1_count 3 = .ok (.getfield 15, 3) := by decide +kernel
theorem dX1_count_6 : decode cX1_count 6 = .ok (.astore_n 3, 1) := by decide +kernel
theorem dX1_count_7 : decode cX1_count 7 = .ok (.aload_n 3, 1) := by decide +kernel
theorem dX1_count_8 : decode cX1_count 8 = .ok (.arraylength, 1) := by decide +kernel
theorem dX1_count_9 : decode cX1_count 9 = .ok (.istore 4, 2) := by decide +kernel
theorem dX1_count_11 : decode cX1_count 11 = .ok (.iconst 0, 1) := by decide +kernel
theorem dX1_count_12 : decode cX1_count 12 = .ok (.istore 5, 2) := by decide +kernel
theorem dX1_count_14 : decode cX1_count 14 = .ok (.iload 5, 2) := by decide +kernel
theorem dX1_count_16 : decode cX1_count 16 = .ok (.iload 4, 2) := by decide +kernel
theorem dX1_count_18 : decode cX1_count 18 = .ok (.if_icmp .ge 31, 3) := by decide +kernel
theorem dX1_count_21 : decode cX1_count 21 = .ok (.aload_n 3, 1) := by decide +kernel
theorem dX1_count_22 : decode cX1_count 22 = .ok (.iload 5, 2) := by decide +kernel
theorem dX1_count_24 : decode cX1_count 24 = .ok (.aaload, 1) := by decide +kernel
theorem dX1_count_25 : decode cX1_count 25 = .ok (.astore 6, 2) := by decide +kernel
theorem dX1_count_27 : decode cX1_count 27 = .ok (.iload_n 2, 1) := by decide +kernel
theorem dX1_count_28 : decode cX1_count 28 = .ok (.aload 6, 2) := by decide +kernel
theorem dX1_count_30 : decode cX1_count 30 = .ok (.iconst 3, 1) := by decide +kernel
theorem dX1_count_31 : decode cX1_count 31 = .ok (.iaload, 1) := by decide +kernel
theorem dX1_count_32 : decode cX1_count 32 = .ok (.iload_n 1, 1) := by decide +kernel
theorem dX1_count_33 : decode cX1_count 33 = .ok (.if_icmp .ne 7, 3) := by decide +kernel
theorem dX1_count_36 : decode cX1_count 36 = .ok (.iconst 1, 1) := by decide +kernel
theorem dX1_count_37 : decode cX1_count 37 = .ok (.goto 4, 3) := by decide +kernel
theorem dX1_count_40 : decode cX1_count 40 = .ok (.iconst 0, 1) := by decide +kernel
theorem dX1_count_41 : decode cX1_count 41 = .ok (.iadd, 1) := by decide +kernel
theorem dX1_count_42 : decode cX1_count 42 = .ok (.istore_n 2, 1) := by decide +kernel
theorem dX1_count_43 : decode cX1_count 43 = .ok (.iinc 5 1, 3) := by decide +kernel
theorem dX1_count_46 : decode cX1_count 46 = .ok (.goto (-32), 3) := by decide +kernel
theorem dX1_count_49 : decode cX1_count 49 = .ok (.iload_n 2, 1) := by decide +kernel
theorem dX1_count_50 : decode cX1_count 50 = .ok (.ireturn, 1) := by decide +kernel
set_option maxRecDepth 20000 in
theorem ggX1_isSame_X1_done : GoodIn wsX1_isSame wsX1_done := goodIn_r _ [9, 2, 146, 147, 148, 149] (by decide +kernel) (by decide +kernel)
set_option maxRecDepth 20000 in
theorem gX1_isSame_X1_done : GoodIn wsX1_isSame (wsV RX1 46 RX1 yX1_done wsX1_done) := goodIn_app (goodIn_of _ (by decide +kernel)) ggX1_isSame_X1_done
set_option maxRecDepth 20000 in
theorem ggX1_isSame_X0_isInHall : GoodIn wsX1_isSame wsX0_isInHall := goodIn_ca (goodIn_r _ [14, 15, 16, 17, 18, 13, 19, 20, 21, 22, 150, 151, 152, 153, 154, 155, 156, 157, 158, 159, 160, 161] (by decide +kernel) (by decide +kernel)) (goodIn_sub (fun _ h => List.mem_cons_of_mem _ (List.mem_append_left _ (List.mem_append_right _ h))) (by decide +kernel))
set_option maxRecDepth 20000 in
theorem gX1_isSame_X0_isInHall : GoodIn wsX1_isSame (wsV RX1 50 RX0 yX0_isInHall wsX0_isInHall) := goodIn_app (goodIn_of _ (by decide +kernel)) ggX1_isSame_X0_isInHall
set_option maxRecDepth 20000 in
theorem ggX1_isSame_X0_prideOf : GoodIn wsX1_isSame wsX0_prideOf := goodIn_ca (goodIn_r _ [26, 27, 16, 17, 18, 13, 19, 20, 21, 22, 150, 151, 152, 153, 154, 155, 156, 157, 158, 159, 160, 161] (by decide +kernel) (by decide +kernel)) (goodIn_sub (fun _ h => List.mem_cons_of_mem _ (List.mem_append_left _ (List.mem_append_right _ h))) (by decide +kernel))
set_option maxRecDepth 20000 in
theorem gX1_isSame_X0_prideOf : GoodIn wsX1_isSame (wsV RX1 56 RX0 yX0_prideOf wsX0_prideOf) := goodIn_app (goodIn_of _ (by decide +kernel)) ggX1_isSame_X0_prideOf
set_option maxRecDepth 20000 in
theorem ggX1_isSame_X0_borneBy : GoodIn wsX1_isSame wsX0_borneBy := goodIn_ca (goodIn_r _ [31, 32, 33, 34, 35, 16, 17, 18, 13, 19, 20, 21, 22, 150, 151, 152, 153, 154, 155, 156, 157, 158, 159, 160, 161] (by decide +kernel) (by decide +kernel)) (goodIn_sub (fun _ h => List.mem_cons_of_mem _ (List.mem_append_left _ (List.mem_append_right _ h))) (by decide +kernel))
set_option maxRecDepth 20000 in
theorem gX1_isSame_X0_borneBy : GoodIn wsX1_isSame (wsV RX1 60 RX0 yX0_borneBy wsX0_borneBy) := goodIn_app (goodIn_of _ (by decide +kernel)) ggX1_isSame_X0_borneBy
set_option maxRecDepth 20000 in
theorem ggX1_isSame_X0_owedBy : GoodIn wsX1_isSame wsX0_owedBy := goodIn_ca (goodIn_r _ [39, 32, 33, 40, 35, 16, 17, 18, 13, 19, 20, 21, 22, 150, 151, 152, 153, 154, 155, 156, 157, 158, 159, 160, 161] (by decide +kernel) (by decide +kernel)) (goodIn_sub (fun _ h => List.mem_cons_of_mem _ (List.mem_append_left _ (List.mem_append_right _ h))) (by decide +kernel))
set_option maxRecDepth 20000 in
theorem gX1_isSame_X0_owedBy : GoodIn wsX1_isSame (wsV RX1 63 RX0 yX0_owedBy wsX0_owedBy) := goodIn_app (goodIn_of _ (by decide +kernel)) ggX1_isSame_X0_owedBy
set_option maxRecDepth 20000 in
theorem ggX1_isSame_X0_balance : GoodIn wsX1_isSame wsX0_balance := goodIn_ca (goodIn_r _ [44, 16, 17, 18, 13, 19, 20, 21, 22, 45, 46, 47, 48, 32, 33, 40, 34, 35, 150, 151, 152, 153, 154, 155, 156, 157, 158, 159, 160, 161] (by decide +kernel) (by decide +kernel)) (goodIn_sub (fun _ h => List.mem_cons_of_mem _ (List.mem_append_left _ (List.mem_append_right _ h))) (by decide +kernel))
set_option maxRecDepth 20000 in
theorem gX1_isSame_X0_balance : GoodIn wsX1_isSame (wsV RX1 66 RX0 yX0_balance wsX0_balance) := goodIn_app (goodIn_of _ (by decide +kernel)) ggX1_isSame_X0_balance
set_option maxRecDepth 20000 in
theorem ggX1_isSame_X1_areOpposite : GoodIn wsX1_isSame wsX1_areOpposite := goodIn_r _ [52] (by decide +kernel) (by decide +kernel)
set_option maxRecDepth 20000 in
theorem gX1_isSame_X1_areOpposite : GoodIn wsX1_isSame (wsV RX1 69 RX1 yX1_areOpposite wsX1_areOpposite) := goodIn_app (goodIn_of _ (by decide +kernel)) ggX1_isSame_X1_areOpposite
set_option maxRecDepth 20000 in
theorem ggX1_isSame_X0_offenderOf : GoodIn wsX1_isSame wsX0_offenderOf := goodIn_ca (goodIn_r _ [56, 40, 57, 58, 59, 13, 60, 20, 21, 32, 150, 151, 152, 153, 154, 155, 156, 157, 158, 159, 160, 161] (by decide +kernel) (by decide +kernel)) (goodIn_sub (fun _ h => List.mem_cons_of_mem _ (List.mem_append_left _ (List.mem_append_right _ h))) (by decide +kernel))
set_option maxRecDepth 20000 in
theorem gX1_isSame_X0_offenderOf : GoodIn wsX1_isSame (wsV RX1 73 RX0 yX0_offenderOf wsX0_offenderOf) := goodIn_app (goodIn_of _ (by decide +kernel)) ggX1_isSame_X0_offenderOf
set_option maxRecDepth 20000 in
theorem ggX1_isSame_X0_offendedOf : GoodIn wsX1_isSame wsX0_offendedOf := goodIn_ca (goodIn_r _ [64, 34, 57, 58, 59, 13, 60, 20, 21, 32, 150, 151, 152, 153, 154, 155, 156, 157, 158, 159, 160, 161] (by decide +kernel) (by decide +kernel)) (goodIn_sub (fun _ h => List.mem_cons_of_mem _ (List.mem_append_left _ (List.mem_append_right _ h))) (by decide +kernel))
set_option maxRecDepth 20000 in
theorem gX1_isSame_X0_offendedOf : GoodIn wsX1_isSame (wsV RX1 76 RX0 yX0_offendedOf wsX0_offendedOf) := goodIn_app (goodIn_of _ (by decide +kernel)) ggX1_isSame_X0_offendedOf
set_option maxRecDepth 20000 in
theorem ggX1_isSame_X0_weightOf : GoodIn wsX1_isSame wsX0_weightOf := goodIn_ca (goodIn_r _ [68, 35, 57, 58, 59, 13, 60, 20, 21, 32, 150, 151, 152, 153, 154, 155, 156, 157, 158, 159, 160, 161] (by decide +kernel) (by decide +kernel)) (goodIn_sub (fun _ h => List.mem_cons_of_mem _ (List.mem_append_left _ (List.mem_append_right _ h))) (by decide +kernel))
set_option maxRecDepth 20000 in
theorem gX1_isSame_X0_weightOf : GoodIn wsX1_isSame (wsV RX1 79 RX0 yX0_weightOf wsX0_weightOf) := goodIn_app (goodIn_of _ (by decide +kernel)) ggX1_isSame_X0_weightOf
set_option maxRecDepth 20000 in
theorem ggX1_isSame_X0_stateOf : GoodIn wsX1_isSame wsX0_stateOf := goodIn_ca (goodIn_r _ [72, 33, 57, 58, 59, 13, 60, 20, 21, 32, 150, 151, 152, 153, 154, 155, 156, 157, 158, 159, 160, 161] (by decide +kernel) (by decide +kernel)) (goodIn_sub (fun _ h => List.mem_cons_of_mem _ (List.mem_append_left _ (List.mem_append_right _ h))) (by decide +kernel))
set_option maxRecDepth 20000 in
theorem gX1_isSame_X0_stateOf : GoodIn wsX1_isSame (wsV RX1 82 RX0 yX0_stateOf wsX0_stateOf) := goodIn_app (goodIn_of _ (by decide +kernel)) ggX1_isSame_X0_stateOf
set_option maxRecDepth 20000 in
theorem ggX1_isSame_X0_borneFor : GoodIn wsX1_isSame wsX0_borneFor := goodIn_ca (goodIn_r _ [76, 77, 57, 58, 59, 13, 60, 20, 21, 32, 150, 151, 152, 153, 154, 155, 156, 157, 158, 159, 160, 161] (by decide +kernel) (by decide +kernel)) (goodIn_sub (fun _ h => List.mem_cons_of_mem _ (List.mem_append_left _ (List.mem_append_right _ h))) (by decide +kernel))
set_option maxRecDepth 20000 in
theorem gX1_isSame_X0_borneFor : GoodIn wsX1_isSame (wsV RX1 85 RX0 yX0_borneFor wsX0_borneFor) := goodIn_app (goodIn_of _ (by decide +kernel)) ggX1_isSame_X0_borneFor
set_option maxRecDepth 20000 in
theorem ggX1_isSame_X0_quietFor : GoodIn wsX1_isSame wsX0_quietFor := goodIn_ca (goodIn_r _ [81, 82, 57, 58, 59, 13, 60, 20, 21, 32, 150, 151, 152, 153, 154, 155, 156, 157, 158, 159, 160, 161] (by decide +kernel) (by decide +kernel)) (goodIn_sub (fun _ h => List.mem_cons_of_mem _ (List.mem_append_left _ (List.mem_append_right _ h))) (by decide +kernel))
set_option maxRecDepth 20000 in
theorem gX1_isSame_X0_quietFor : GoodIn wsX1_isSame (wsV RX1 88 RX0 yX0_quietFor wsX0_quietFor) := goodIn_app (goodIn_of _ (by decide +kernel)) ggX1_isSame_X0_quietFor
set_option maxRecDepth 20000 in
theorem ggX1_isSame_X0_witnessesFor : GoodIn wsX1_isSame wsX0_witnessesFor := goodIn_ca (goodIn_r _ [86, 22, 15, 40, 34, 57, 58, 59, 13, 60, 20, 21, 32, 150, 151, 152, 153, 154, 155, 156, 157, 158, 159, 160, 161] (by decide +kernel) (by decide +kernel)) (goodIn_sub (fun _ h => List.mem_cons_of_mem _ (List.mem_append_left _ (List.mem_append_right _ h))) (by decide +kernel))
set_option maxRecDepth 20000 in
theorem gX1_isSame_X0_witnessesFor : GoodIn wsX1_isSame (wsV RX1 91 RX0 yX0_witnessesFor wsX0_witnessesFor) := goodIn_app (goodIn_of _ (by decide +kernel)) ggX1_isSame_X0_witnessesFor
set_option maxRecDepth 20000 in
theorem ggX1_isSame_X1_witnesses : GoodIn wsX1_isSame wsX1_witnesses := goodIn_r _ [90, 1, 146, 147, 148, 149] (by decide +kernel) (by decide +kernel)
set_option maxRecDepth 20000 in
theorem gX1_isSame_X1_witnesses : GoodIn wsX1_isSame (wsV RX1 30 RX1 yX1_witnesses wsX1_witnesses) := goodIn_app (goodIn_of _ (by decide +kernel)) ggX1_isSame_X1_witnesses
set_option maxRecDepth 20000 in
theorem ggX1_isSame_X0_inState : GoodIn wsX1_isSame wsX0_inState := goodIn_ca (goodIn_r _ [94, 95, 96, 32, 33, 150, 151, 152, 153, 154, 155, 156, 157, 158, 159, 160, 161] (by decide +kernel) (by decide +kernel)) (goodIn_sub (fun _ h => List.mem_cons_of_mem _ (List.mem_append_right _ h)) (by decide +kernel))
set_option maxRecDepth 20000 in
theorem gX1_isSame_X0_inState : GoodIn wsX1_isSame (wsV RX1 94 RX0 yX0_inState wsX0_inState) := goodIn_app (goodIn_of _ (by decide +kernel)) ggX1_isSame_X0_inState
set_option maxRecDepth 20000 in
theorem ggX1_isSame_X1_count : GoodIn wsX1_isSame wsX1_count := goodIn_r _ [100, 2, 146, 147, 148, 149] (by decide +kernel) (by decide +kernel)
set_option maxRecDepth 20000 in
theorem gX1_isSame_X1_count : GoodIn wsX1_isSame (wsV RX1 97 RX1 yX1_count wsX1_count) := goodIn_app (goodIn_of _ (by decide +kernel)) ggX1_isSame_X1_count
set_option maxRecDepth 20000 in
theorem ggX1_isSame_X0_day : GoodIn wsX1_isSame wsX0_day := goodIn_r _ [104, 105, 150, 151, 152, 153, 154, 155, 156, 157, 158, 159, 160, 161] (by decide +kernel) (by decide +kernel)
set_option maxRecDepth 20000 in
theorem gX1_isSame_X0_day : GoodIn wsX1_isSame (wsV RX1 100 RX0 yX0_day wsX0_day) := goodIn_app (goodIn_of _ (by decide +kernel)) ggX1_isSame_X0_day
set_option maxRecDepth 20000 in
theorem ggX1_isSame_X0_persons : GoodIn wsX1_isSame wsX0_persons := goodIn_r _ [109, 22, 150, 151, 152, 153, 154, 155, 156, 157, 158, 159, 160, 161] (by decide +kernel) (by decide +kernel)
set_option maxRecDepth 20000 in
theorem gX1_isSame_X0_persons : GoodIn wsX1_isSame (wsV RX1 102 RX0 yX0_persons wsX0_persons) := goodIn_app (goodIn_of _ (by decide +kernel)) ggX1_isSame_X0_persons
set_option maxRecDepth 20000 in
theorem ggX1_isSame_X0_slights : GoodIn wsX1_isSame wsX0_slights := goodIn_r _ [113, 32, 150, 151, 152, 153, 154, 155, 156, 157, 158, 159, 160, 161] (by decide +kernel) (by decide +kernel)
set_option maxRecDepth 20000 in
theorem gX1_isSame_X0_slights : GoodIn wsX1_isSame (wsV RX1 104 RX0 yX0_slights wsX0_slights) := goodIn_app (goodIn_of _ (by decide +kernel)) ggX1_isSame_X0_slights
set_option maxRecDepth 20000 in
theorem ggX1_isSame_X0_inHall : GoodIn wsX1_isSame wsX0_inHall := goodIn_r _ [117, 22, 15, 150, 151, 152, 153, 154, 155, 156, 157, 158, 159, 160, 161] (by decide +kernel) (by decide +kernel)
set_option maxRecDepth 20000 in
theorem gX1_isSame_X0_inHall : GoodIn wsX1_isSame (wsV RX1 106 RX0 yX0_inHall wsX0_inHall) := goodIn_app (goodIn_of _ (by decide +kernel)) ggX1_isSame_X0_inHall
set_option maxRecDepth 20000 in
theorem ggX1_isSame_X0_scorned : GoodIn wsX1_isSame wsX0_scorned := goodIn_r _ [121, 122, 150, 151, 152, 153, 154, 155, 156, 157, 158, 159, 160, 161] (by decide +kernel) (by decide +kernel)
set_option maxRecDepth 20000 in
theorem gX1_isSame_X0_scorned : GoodIn wsX1_isSame (wsV RX1 109 RX0 yX0_scorned wsX0_scorned) := goodIn_app (goodIn_of _ (by decide +kernel)) ggX1_isSame_X0_scorned
set_option maxRecDepth 20000 in
theorem ggX1_isSame_X0_sorest : GoodIn wsX1_isSame wsX0_sorest := goodIn_ca (goodIn_r _ [126, 22, 127, 29, 30, 13, 31, 32, 33, 34, 35, 16, 17, 18, 19, 20, 21, 150, 151, 152, 153, 154, 155, 156, 157, 158, 159, 160, 161] (by decide +kernel) (by decide +kernel)) (goodIn_sub (fun _ h => List.mem_cons_of_mem _ (List.mem_append_left _ (List.mem_append_right _ h))) (by decide +kernel))
set_option maxRecDepth 20000 in
theorem gX1_isSame_X0_sorest : GoodIn wsX1_isSame (wsV RX1 111 RX0 yX0_sorest wsX0_sorest) := goodIn_app (goodIn_of _ (by decide +kernel)) ggX1_isSame_X0_sorest
set_option maxRecDepth 20000 in
theorem ggX1_isSame_X0_heaviest : GoodIn wsX1_isSame wsX0_heaviest := goodIn_r _ [131, 32, 33, 35, 150, 151, 152, 153, 154, 155, 156, 157, 158, 159, 160, 161] (by decide +kernel) (by decide +kernel)
set_option maxRecDepth 20000 in
theorem gX1_isSame_X0_heaviest : GoodIn wsX1_isSame (wsV RX1 114 RX0 yX0_heaviest wsX0_heaviest) := goodIn_app (goodIn_of _ (by decide +kernel)) ggX1_isSame_X0_heaviest
set_option maxRecDepth 20000 in
theorem ggX1_isSame_X0_pairsToSetOff : GoodIn wsX1_isSame wsX0_pairsToSetOff := goodIn_ca (goodIn_r _ [135, 32, 33, 136, 137, 138, 13, 139, 140, 54, 55, 56, 40, 57, 58, 59, 60, 20, 21, 141, 62, 63, 64, 34, 150, 151, 152, 153, 154, 155, 156, 157, 158, 159, 160, 161] (by decide +kernel) (by decide +kernel)) (goodIn_sub (fun _ h => List.mem_cons_of_mem _ (List.mem_append_left _ (List.mem_append_right _ h))) (by decide +kernel))
set_option maxRecDepth 20000 in
theorem gX1_isSame_X0_pairsToSetOff : GoodIn wsX1_isSame (wsV RX1 117 RX0 yX0_pairsToSetOff wsX0_pairsToSetOff) := goodIn_app (goodIn_of _ (by decide +kernel)) ggX1_isSame_X0_pairsToSetOff
set_option maxRecDepth 20000 in
theorem ggX1_isSame_X0_meanWeight : GoodIn wsX1_isSame wsX0_meanWeight := goodIn_r _ [145, 32, 33, 35, 150, 151, 152, 153, 154, 155, 156, 157, 158, 159, 160, 161] (by decide +kernel) (by decide +kernel)
set_option maxRecDepth 20000 in
theorem gX1_isSame_X0_meanWeight : GoodIn wsX1_isSame (wsV RX1 120 RX0 yX0_meanWeight wsX0_meanWeight) := goodIn_app (goodIn_of _ (by decide +kernel)) ggX1_isSame_X0_meanWeight
theorem dX1_isSame_0 : decode cX1_isSame 0 = .ok (.iconst 0, 1) := by decide +kernel
theorem dX1_isSame_1 : decode cX1_isSame 1 = .ok (.istore_n 2, 1) := by decide +kernel
theorem dX1_isSame_2 : decode cX1_isSame 2 = .ok (.iconst (-1), 1) := by decide +kernel
theorem dX1_isSame_3 : decode cX1_isSame 3 = .ok (.istore_n 3, 1) := by decide +kernel
theorem dX1_isSame_4 : decode cX1_isSame 4 = .ok (.iconst (-1), 1) := by decide +kernel
theorem dX1_isSame_5 : decode cX1_isSame 5 = .ok (.istore 4, 2) := by decide +kernel
theorem dX1_isSame_7 : decode cX1_isSame 7 = .ok (.iconst 0, 1) := by decide +kernel
theorem dX1_isSame_8 : decode cX1_isSame 8 = .ok (.istore 5, 2) := by decide +kernel
theorem dX1_isSame_10 : decode cX1_isSame 10 = .ok (.iconst 0, 1) := by decide +kernel
theorem dX1_isSame_11 : decode cX1_isSame 11 = .ok (.istore 6, 2) := by decide +kernel
theorem dX1_isSame_13 : decode cX1_isSame 13 = .ok (.iload 6, 2) := by decide +kernel
theorem dX1_isSame_15 : decode cX1_isSame 15 = .ok (.aload_n 0, 1) := by decide +kernel
theorem dX1_isSame_16 : decode cX1_isSame 16 = .ok (.getfield 9, 3) := by decide +kernel
theorem dX1_isSame_19 : decode cX1_isSame 19 = .ok (.arraylength, 1) := by decide +kernel
theorem dX1_isSame_20 : decode cX1_isSame 20 = .ok (.if_icmp .ge 172, 3) := by decide +kernel
theorem dX1_isSame_23 : decode cX1_isSame 23 = .ok (.iload_n 2, 1) := by decide +kernel
theorem dX1_isSame_24 : decode cX1_isSame 24 = .ok (.aload_n 0, 1) := by decide +kernel
theorem dX1_isSame_25 : decode cX1_isSame 25 = .ok (.getfield 9, 3) := by decide +kernel
theorem dX1_isSame_28 : decode cX1_isSame 28 = .ok (.iload 6, 2) := by decide +kernel
theorem dX1_isSame_30 : decode cX1_isSame 30 = .ok (.aaload, 1) := by decide +kernel
theorem dX1_isSame_31 : decode cX1_isSame 31 = .ok (.iconst 1, 1) := by decide +kernel
theorem dX1_isSame_32 : decode cX1_isSame 32 = .ok (.iaload, 1) := by decide +kernel
theorem dX1_isSame_33 : decode cX1_isSame 33 = .ok (.iadd, 1) := by decide +kernel
theorem dX1_isSame_34 : decode cX1_isSame 34 = .ok (.istore_n 2, 1) := by decide +kernel
theorem dX1_isSame_35 : decode cX1_isSame 35 = .ok (.iload_n 3, 1) := by decide +kernel
theorem dX1_isSame_36 : decode cX1_isSame 36 = .ok (.ifCond .lt 19, 3) := by decide +kernel
theorem dX1_isSame_39 : decode cX1_isSame 39 = .ok (.aload_n 0, 1) := by decide +kernel
theorem dX1_isSame_40 : decode cX1_isSame 40 = .ok (.iconst (-1), 1) := by decide +kernel
theorem dX1_isSame_41 : decode cX1_isSame 41 = .ok (.iload 6, 2) := by decide +kernel
theorem dX1_isSame_43 : decode cX1_isSame 43 = .ok (.invokevirtual 46, 3) := by decide +kernel
theorem dX1_isSame_46 : decode cX1_isSame 46 = .ok (.aload_n 0, 1) := by decide +kernel
theorem dX1_isSame_47 : decode cX1_isSame 47 = .ok (.iconst (-1), 1) := by decide +kernel
theorem dX1_isSame_48 : decode cX1_isSame 48 = .ok (.iload_n 3, 1) := by decide +kernel
theorem dX1_isSame_49 : decode cX1_isSame 49 = .ok (.invokevirtual 46, 3) := by decide +kernel
theorem dX1_isSame_52 : decode cX1_isSame 52 = .ok (.if_icmp .le 6, 3) := by decide +kernel
theorem dX1_isSame_55 : decode cX1_isSame 55 = .ok (.iload 6, 2) := by decide +kernel
theorem dX1_isSame_57 : decode cX1_isSame 57 = .ok (.istore_n 3, 1) := by decide +kernel
theorem dX1_isSame_58 : decode cX1_isSame 58 = .ok (.aload_n 1, 1) := by decide +kernel
theorem dX1_isSame_59 : decode cX1_isSame 59 = .ok (.iload 6, 2) := by decide +kernel
theorem dX1_isSame_61 : decode cX1_isSame 61 = .ok (.invokevirtual 50, 3) := by decide +kernel
theorem dX1_isSame_64 : decode cX1_isSame 64 = .ok (.aload_n 0, 1) := by decide +kernel
theorem dX1_isSame_65 : decode cX1_isSame 65 = .ok (.getfield 9, 3) := by decide +kernel
theorem dX1_isSame_68 : decode cX1_isSame 68 = .ok (.iload 6, 2) := by decide +kernel
theorem dX1_isSame_70 : decode cX1_isSame 70 = .ok (.aaload, 1) := by decide +kernel
theorem dX1_isSame_71 : decode cX1_isSame 71 = .ok (.iconst 1, 1) := by decide +kernel
theorem dX1_isSame_72 : decode cX1_isSame 72 = .ok (.iaload, 1) := by decide +kernel
theorem dX1_isSame_73 : decode cX1_isSame 73 = .ok (.iconst 1, 1) := by decide +kernel
theorem dX1_isSame_74 : decode cX1_isSame 74 = .ok (.if_icmp .ne 7, 3) := by decide +kernel
theorem dX1_isSame_77 : decode cX1_isSame 77 = .ok (.iconst 1, 1) := by decide +kernel
theorem dX1_isSame_78 : decode cX1_isSame 78 = .ok (.goto 4, 3) := by decide +kernel
theorem dX1_isSame_81 : decode cX1_isSame 81 = .ok (.iconst 0, 1) := by decide +kernel
theorem dX1_isSame_82 : decode cX1_isSame 82 = .ok (.if_icmp .ne 53, 3) := by decide +kernel
theorem dX1_isSame_85 : decode cX1_isSame 85 = .ok (.aload_n 1, 1) := by decide +kernel
theorem dX1_isSame_86 : decode cX1_isSame 86 = .ok (.iload 6, 2) := by decide +kernel
theorem dX1_isSame_88 : decode cX1_isSame 88 = .ok (.invokevirtual 56, 3) := by decide +kernel
theorem dX1_isSame_91 : decode cX1_isSame 91 = .ok (.aload_n 0, 1) := by decide +kernel
theorem dX1_isSame_92 : decode cX1_isSame 92 = .ok (.getfield 9, 3) := by decide +kernel
theorem dX1_isSame_95 : decode cX1_isSame 95 = .ok (.iload 6, 2) := by decide +kernel
theorem dX1_isSame_97 : decode cX1_isSame 97 = .ok (.aaload, 1) := by decide +kernel
theorem dX1_isSame_98 : decode cX1_isSame 98 = .ok (.iconst 0, 1) := by decide +kernel
theorem dX1_isSame_99 : decode cX1_isSame 99 = .ok (.iaload, 1) := by decide +kernel
theorem dX1_isSame_100 : decode cX1_isSame 100 = .ok (.if_icmp .ne 35, 3) := by decide +kernel
theorem dX1_isSame_103 : decode cX1_isSame 103 = .ok (.aload_n 1, 1) := by decide +kernel
theorem dX1_isSame_104 : decode cX1_isSame 104 = .ok (.iload 6, 2) := by decide +kernel
theorem dX1_isSame_106 : decode cX1_isSame 106 = .ok (.invokevirtual 60, 3) := by decide +kernel
theorem dX1_isSame_109 : decode cX1_isSame 109 = .ok (.aload_n 0, 1) := by decide +kernel
theorem dX1_isSame_110 : decode cX1_isSame 110 = .ok (.iconst (-1), 1) := by decide +kernel
theorem dX1_isSame_111 : decode cX1_isSame 111 = .ok (.iload 6, 2) := by decide +kernel
theorem dX1_isSame_113 : decode cX1_isSame 113 = .ok (.invokevirtual 46, 3) := by decide +kernel
theorem dX1_isSame_116 : decode cX1_isSame 116 = .ok (.if_icmp .ne 19, 3) := by decide +kernel
theorem dX1_isSame_119 : decode cX1_isSame 119 = .ok (.aload_n 1, 1) := by decide +kernel
theorem dX1_isSame_120 : decode cX1_isSame 120 = .ok (.iload 6, 2) := by decide +kernel
theorem dX1_isSame_122 : decode cX1_isSame 122 = .ok (.invokevirtual 63, 3) := by decide +kernel
theorem dX1_isSame_125 : decode cX1_isSame 125 = .ok (.aload_n 0, 1) := by decide +kernel
theorem dX1_isSame_126 : decode cX1_isSame 126 = .ok (.iload 6, 2) := by decide +kernel
theorem dX1_isSame_128 : decode cX1_isSame 128 = .ok (.iconst (-1), 1) := by decide +kernel
theorem dX1_isSame_129 : decode cX1_isSame 129 = .ok (.invokevirtual 46, 3) := by decide +kernel
theorem dX1_isSame_132 : decode cX1_isSame 132 = .ok (.if_icmp .eq 5, 3) := by decide +kernel
theorem dX1_isSame_135 : decode cX1_isSame 135 = .ok (.iconst 0, 1) := by decide +kernel
theorem dX1_isSame_136 : decode cX1_isSame 136 = .ok (.ireturn, 1) := by decide +kernel
theorem dX1_isSame_137 : decode cX1_isSame 137 = .ok (.iconst 0, 1) := by decide +kernel
theorem dX1_isSame_138 : decode cX1_isSame 138 = .ok (.istore 7, 2) := by decide +kernel
theorem dX1_isSame_140 : decode cX1_isSame 140 = .ok (.iload 7, 2) := by decide +kernel
theorem dX1_isSame_142 : decode cX1_isSame 142 = .ok (.aload_n 0, 1) := by decide +kernel
theorem dX1_isSame_143 : decode cX1_isSame 143 = .ok (.getfield 9, 3) := by decide +kernel
theorem dX1_isSame_146 : decode cX1_isSame 146 = .ok (.arraylength, 1) := by decide +kernel
theorem dX1_isSame_147 : decode cX1_isSame 147 = .ok (.if_icmp .ge 39, 3) := by decide +kernel
theorem dX1_isSame_150 : decode cX1_isSame 150 = .ok (.aload_n 1, 1) := by decide +kernel
theorem dX1_isSame_151 : decode cX1_isSame 151 = .ok (.iload 6, 2) := by decide +kernel
theorem dX1_isSame_153 : decode cX1_isSame 153 = .ok (.iload 7, 2) := by decide +kernel
theorem dX1_isSame_155 : decode cX1_isSame 155 = .ok (.invokevirtual 66, 3) := by decide +kernel
theorem dX1_isSame_158 : decode cX1_isSame 158 = .ok (.aload_n 0, 1) := by decide +kernel
theorem dX1_isSame_159 : decode cX1_isSame 159 = .ok (.iload 6, 2) := by decide +kernel
theorem dX1_isSame_161 : decode cX1_isSame 161 = .ok (.iload 7, 2) := by decide +kernel
theorem dX1_isSame_163 : decode cX1_isSame 163 = .ok (.invokevirtual 46, 3) := by decide +kernel
theorem dX1_isSame_166 : decode cX1_isSame 166 = .ok (.aload_n 0, 1) := by decide +kernel
theorem dX1_isSame_167 : decode cX1_isSame 167 = .ok (.iload 7, 2) := by decide +kernel
theorem dX1_isSame_169 : decode cX1_isSame 169 = .ok (.iload 6, 2) := by decide +kernel
theorem dX1_isSame_171 : decode cX1_isSame 171 = .ok (.invokevirtual 46, 3) := by decide +kernel
theorem dX1_isSame_174 : decode cX1_isSame 174 = .ok (.isub, 1) := by decide +kernel
theorem dX1_isSame_175 : decode cX1_isSame 175 = .ok (.if_icmp .eq 5, 3) := by decide +kernel
theorem dX1_isSame_178 : decode cX1_isSame 178 = .ok (.iconst 0, 1) := by decide +kernel
theorem dX1_isSame_179 : decode cX1_isSame 179 = .ok (.ireturn, 1) := by decide +kernel
theorem dX1_isSame_180 : decode cX1_isSame 180 = .ok (.iinc 7 1, 3) := by decide +kernel
theorem dX1_isSame_183 : decode cX1_isSame 183 = .ok (.goto (-43), 3) := by decide +kernel
theorem dX1_isSame_186 : decode cX1_isSame 186 = .ok (.iinc 6 1, 3) := by decide +kernel
theorem dX1_isSame_189 : decode cX1_isSame 189 = .ok (.goto (-176), 3) := by decide +kernel
theorem dX1_isSame_192 : decode cX1_isSame 192 = .ok (.iconst 0, 1) := by decide +kernel
theorem dX1_isSame_193 : decode cX1_isSame 193 = .ok (.istore 6, 2) := by decide +kernel
theorem dX1_isSame_195 : decode cX1_isSame 195 = .ok (.iload 6, 2) := by decide +kernel
theorem dX1_isSame_197 : decode cX1_isSame 197 = .ok (.aload_n 0, 1) := by decide +kernel
theorem dX1_isSame_198 : decode cX1_isSame 198 = .ok (.getfield 15, 3) := by decide +kernel
theorem dX1_isSame_201 : decode cX1_isSame 201 = .ok (.arraylength, 1) := by decide +kernel
theorem dX1_isSame_202 : decode cX1_isSame 202 = .ok (.if_icmp .ge 187, 3) := by decide +kernel
theorem dX1_isSame_205 : decode cX1_isSame 205 = .ok (.aload_n 0, 1) := by decide +kernel
theorem dX1_isSame_206 : decode cX1_isSame 206 = .ok (.getfield 15, 3) := by decide +kernel
theorem dX1_isSame_209 : decode cX1_isSame 209 = .ok (.iload 6, 2) := by decide +kernel
theorem dX1_isSame_211 : decode cX1_isSame 211 = .ok (.aaload, 1) := by decide +kernel
theorem dX1_isSame_212 : decode cX1_isSame 212 = .ok (.astore 7, 2) := by decide +kernel
theorem dX1_isSame_214 : decode cX1_isSame 214 = .ok (.aload 7, 2) := by decide +kernel
theorem dX1_isSame_216 : decode cX1_isSame 216 = .ok (.iconst 3, 1) := by decide +kernel
theorem dX1_isSame_217 : decode cX1_isSame 217 = .ok (.iaload, 1) := by decide +kernel
theorem dX1_isSame_218 : decode cX1_isSame 218 = .ok (.ifCond .ne 28, 3) := by decide +kernel
theorem dX1_isSame_221 : decode cX1_isSame 221 = .ok (.iload 4, 2) := by decide +kernel
theorem dX1_isSame_223 : decode cX1_isSame 223 = .ok (.ifCond .lt 19, 3) := by decide +kernel
theorem dX1_isSame_226 : decode cX1_isSame 226 = .ok (.aload 7, 2) := by decide +kernel
theorem dX1_isSame_228 : decode cX1_isSame 228 = .ok (.iconst 2, 1) := by decide +kernel
theorem dX1_isSame_229 : decode cX1_isSame 229 = .ok (.iaload, 1) := by decide +kernel
theorem dX1_isSame_230 : decode cX1_isSame 230 = .ok (.aload_n 0, 1) := by decide +kernel
theorem dX1_isSame_231 : decode cX1_isSame 231 = .ok (.getfield 15, 3) := by decide +kernel
theorem dX1_isSame_234 : decode cX1_isSame 234 = .ok (.iload 4, 2) := by decide +kernel
theorem dX1_isSame_236 : decode cX1_isSame 236 = .ok (.aaload, 1) := by decide +kernel
theorem dX1_isSame_237 : decode cX1_isSame 237 = .ok (.iconst 2, 1) := by decide +kernel
theorem dX1_isSame_238 : decode cX1_isSame 238 = .ok (.iaload, 1) := by decide +kernel
theorem dX1_isSame_239 : decode cX1_isSame 239 = .ok (.if_icmp .le 7, 3) := by decide +kernel
theorem dX1_isSame_242 : decode cX1_isSame 242 = .ok (.iload 6, 2) := by decide +kernel
theorem dX1_isSame_244 : decode cX1_isSame 244 = .ok (.istore 4, 2) := by decide +kernel
theorem dX1_isSame_246 : decode cX1_isSame 246 = .ok (.iconst 0, 1) := by decide +kernel
theorem dX1_isSame_247 : decode cX1_isSame 247 = .ok (.istore 8, 2) := by decide +kernel
theorem dX1_isSame_249 : decode cX1_isSame 249 = .ok (.iload 8, 2) := by decide +kernel
theorem dX1_isSame_251 : decode cX1_isSame 251 = .ok (.iload 6, 2) := by decide +kernel
theorem dX1_isSame_253 : decode cX1_isSame 253 = .ok (.if_icmp .ge 35, 3) := by decide +kernel
theorem dX1_isSame_256 : decode cX1_isSame 256 = .ok (.iload 5, 2) := by decide +kernel
theorem dX1_isSame_258 : decode cX1_isSame 258 = .ok (.aload_n 0, 1) := by decide +kernel
theorem dX1_isSame_259 : decode cX1_isSame 259 = .ok (.aload 7, 2) := by decide +kernel
theorem dX1_isSame_261 : decode cX1_isSame 261 = .ok (.aload_n 0, 1) := by decide +kernel
theorem dX1_isSame_262 : decode cX1_isSame 262 = .ok (.getfield 15, 3) := by decide +kernel
theorem dX1_isSame_265 : decode cX1_isSame 265 = .ok (.iload 8, 2) := by decide +kernel
theorem dX1_isSame_267 : decode cX1_isSame 267 = .ok (.aaload, 1) := by decide +kernel
theorem dX1_isSame_268 : decode cX1_isSame 268 = .ok (.invokevirtual 69, 3) := by decide +kernel
theorem dX1_isSame_271 : decode cX1_isSame 271 = .ok (.ifCond .eq 7, 3) := by decide +kernel
theorem dX1_isSame_274 : decode cX1_isSame 274 = .ok (.iconst 1, 1) := by decide +kernel
theorem dX1_isSame_275 : decode cX1_isSame 275 = .ok (.goto 4, 3) := by decide +kernel
theorem dX1_isSame_278 : decode cX1_isSame 278 = .ok (.iconst 0, 1) := by decide +kernel
theorem dX1_isSame_279 : decode cX1_isSame 279 = .ok (.iadd, 1) := by decide +kernel
theorem dX1_isSame_280 : decode cX1_isSame 280 = .ok (.istore 5, 2) := by decide +kernel
theorem dX1_isSame_282 : decode cX1_isSame 282 = .ok (.iinc 8 1, 3) := by decide +kernel
theorem dX1_isSame_285 : decode cX1_isSame 285 = .ok (.goto (-36), 3) := by decide +kernel
theorem dX1_isSame_288 : decode cX1_isSame 288 = .ok (.aload_n 1, 1) := by decide +kernel
theorem dX1_isSame_289 : decode cX1_isSame 289 = .ok (.iload 6, 2) := by decide +kernel
theorem dX1_isSame_291 : decode cX1_isSame 291 = .ok (.invokevirtual 73, 3) := by decide +kernel
theorem dX1_isSame_294 : decode cX1_isSame 294 = .ok (.aload 7, 2) := by decide +kernel
theorem dX1_isSame_296 : decode cX1_isSame 296 = .ok (.iconst 0, 1) := by decide +kernel
theorem dX1_isSame_297 : decode cX1_isSame 297 = .ok (.iaload, 1) := by decide +kernel
theorem dX1_isSame_298 : decode cX1_isSame 298 = .ok (.if_icmp .ne 83, 3) := by decide +kernel
theorem dX1_isSame_301 : decode cX1_isSame 301 = .ok (.aload_n 1, 1) := by decide +kernel
theorem dX1_isSame_302 : decode cX1_isSame 302 = .ok (.iload 6, 2) := by decide +kernel
theorem dX1_isSame_304 : decode cX1_isSame 304 = .ok (.invokevirtual 76, 3) := by decide +kernel
theorem dX1_isSame_307 : decode cX1_isSame 307 = .ok (.aload 7, 2) := by decide +kernel
theorem dX1_isSame_309 : decode cX1_isSame 309 = .ok (.iconst 1, 1) := by decide +kernel
theorem dX1_isSame_310 : decode cX1_isSame 310 = .ok (.iaload, 1) := by decide +kernel
theorem dX1_isSame_311 : decode cX1_isSame 311 = .ok (.if_icmp .ne 70, 3) := by decide +kernel
theorem dX1_isSame_314 : decode cX1_isSame 314 = .ok (.aload_n 1, 1) := by decide +kernel
theorem dX1_isSame_315 : decode cX1_isSame 315 = .ok (.iload 6, 2) := by decide +kernel
theorem dX1_isSame_317 : decode cX1_isSame 317 = .ok (.invokevirtual 79, 3) := by decide +kernel
theorem dX1_isSame_320 : decode cX1_isSame 320 = .ok (.aload 7, 2) := by decide +kernel
theorem dX1_isSame_322 : decode cX1_isSame 322 = .ok (.iconst 2, 1) := by decide +kernel
theorem dX1_isSame_323 : decode cX1_isSame 323 = .ok (.iaload, 1) := by decide +kernel
theorem dX1_isSame_324 : decode cX1_isSame 324 = .ok (.if_icmp .ne 57, 3) := by decide +kernel
theorem dX1_isSame_327 : decode cX1_isSame 327 = .ok (.aload_n 1, 1) := by decide +kernel
theorem dX1_isSame_328 : decode cX1_isSame 328 = .ok (.iload 6, 2) := by decide +kernel
theorem dX1_isSame_330 : decode cX1_isSame 330 = .ok (.invokevirtual 82, 3) := by decide +kernel
theorem dX1_isSame_333 : decode cX1_isSame 333 = .ok (.aload 7, 2) := by decide +kernel
theorem dX1_isSame_335 : decode cX1_isSame 335 = .ok (.iconst 3, 1) := by decide +kernel
theorem dX1_isSame_336 : decode cX1_isSame 336 = .ok (.iaload, 1) := by decide +kernel
theorem dX1_isSame_337 : decode cX1_isSame 337 = .ok (.if_icmp .ne 44, 3) := by decide +kernel
theorem dX1_isSame_340 : decode cX1_isSame 340 = .ok (.aload_n 1, 1) := by decide +kernel
theorem dX1_isSame_341 : decode cX1_isSame 341 = .ok (.iload 6, 2) := by decide +kernel
theorem dX1_isSame_343 : decode cX1_isSame 343 = .ok (.invokevirtual 85, 3) := by decide +kernel
theorem dX1_isSame_346 : decode cX1_isSame 346 = .ok (.aload 7, 2) := by decide +kernel
theorem dX1_isSame_348 : decode cX1_isSame 348 = .ok (.iconst 4, 1) := by decide +kernel
theorem dX1_isSame_349 : decode cX1_isSame 349 = .ok (.iaload, 1) := by decide +kernel
theorem dX1_isSame_350 : decode cX1_isSame 350 = .ok (.if_icmp .ne 31, 3) := by decide +kernel
theorem dX1_isSame_353 : decode cX1_isSame 353 = .ok (.aload_n 1, 1) := by decide +kernel
theorem dX1_isSame_354 : decode cX1_isSame 354 = .ok (.iload 6, 2) := by decide +kernel
theorem dX1_isSame_356 : decode cX1_isSame 356 = .ok (.invokevirtual 88, 3) := by decide +kernel
theorem dX1_isSame_359 : decode cX1_isSame 359 = .ok (.aload 7, 2) := by decide +kernel
theorem dX1_isSame_361 : decode cX1_isSame 361 = .ok (.iconst 5, 1) := by decide +kernel
theorem dX1_isSame_362 : decode cX1_isSame 362 = .ok (.iaload, 1) := by decide +kernel
theorem dX1_isSame_363 : decode cX1_isSame 363 = .ok (.if_icmp .ne 18, 3) := by decide +kernel
theorem dX1_isSame_366 : decode cX1_isSame 366 = .ok (.aload_n 1, 1) := by decide +kernel
theorem dX1_isSame_367 : decode cX1_isSame 367 = .ok (.iload 6, 2) := by decide +kernel
theorem dX1_isSame_369 : decode cX1_isSame 369 = .ok (.invokevirtual 91, 3) := by decide +kernel
theorem dX1_isSame_372 : decode cX1_isSame 372 = .ok (.aload_n 0, 1) := by decide +kernel
theorem dX1_isSame_373 : decode cX1_isSame 373 = .ok (.aload 7, 2) := by decide +kernel
theorem dX1_isSame_375 : decode cX1_isSame 375 = .ok (.invokevirtual 30, 3) := by decide +kernel
theorem dX1_isSame_378 : decode cX1_isSame 378 = .ok (.if_icmp .eq 5, 3) := by decide +kernel
theorem dX1_isSame_381 : decode cX1_isSame 381 = .ok (.iconst 0, 1) := by decide +kernel
theorem dX1_isSame_382 : decode cX1_isSame 382 = .ok (.ireturn, 1) := by decide +kernel
theorem dX1_isSame_383 : decode cX1_isSame 383 = .ok (.iinc 6 1, 3) := by decide +kernel
theorem dX1_isSame_386 : decode cX1_isSame 386 = .ok (.goto (-191), 3) := by decide +kernel
theorem dX1_isSame_389 : decode cX1_isSame 389 = .ok (.iconst 0, 1) := by decide +kernel
theorem dX1_isSame_390 : decode cX1_isSame 390 = .ok (.istore 6, 2) := by decide +kernel
theorem dX1_isSame_392 : decode cX1_isSame 392 = .ok (.iload 6, 2) := by decide +kernel
theorem dX1_isSame_394 : decode cX1_isSame 394 = .ok (.iconst 4, 1) := by decide +kernel
theorem dX1_isSame_395 : decode cX1_isSame 395 = .ok (.if_icmp .ge 26, 3) := by decide +kernel
theorem dX1_isSame_398 : decode cX1_isSame 398 = .ok (.aload_n 1, 1) := by decide +kernel
theorem dX1_isSame_399 : decode cX1_isSame 399 = .ok (.iload 6, 2) := by decide +kernel
theorem dX1_isSame_401 : decode cX1_isSame 401 = .ok (.invokevirtual 94, 3) := by decide +kernel
theorem dX1_isSame_404 : decode cX1_isSame 404 = .ok (.aload_n 0, 1) := by decide +kernel
theorem dX1_isSame_405 : decode cX1_isSame 405 = .ok (.iload 6, 2) := by decide +kernel
theorem dX1_isSame_407 : decode cX1_isSame 407 = .ok (.invokevirtual 97, 3) := by decide +kernel
theorem dX1_isSame_410 : decode cX1_isSame 410 = .ok (.if_icmp .eq 5, 3) := by decide +kernel
theorem dX1_isSame_413 : decode cX1_isSame 413 = .ok (.iconst 0, 1) := by decide +kernel
theorem dX1_isSame_414 : decode cX1_isSame 414 = .ok (.ireturn, 1) := by decide +kernel
theorem dX1_isSame_415 : decode cX1_isSame 415 = .ok (.iinc 6 1, 3) := by decide +kernel
theorem dX1_isSame_418 : decode cX1_isSame 418 = .ok (.goto (-26), 3) := by decide +kernel
theorem dX1_isSame_421 : decode cX1_isSame 421 = .ok (.aload_n 1, 1) := by decide +kernel
theorem dX1_isSame_422 : decode cX1_isSame 422 = .ok (.invokevirtual 100, 3) := by decide +kernel
theorem dX1_isSame_425 : decode cX1_isSame 425 = .ok (.aload_n 0, 1) := by decide +kernel
theorem dX1_isSame_426 : decode cX1_isSame 426 = .ok (.getfield 23, 3) := by decide +kernel
theorem dX1_isSame_429 : decode cX1_isSame 429 = .ok (.if_icmp .ne 110, 3) := by decide +kernel
theorem dX1_isSame_432 : decode cX1_isSame 432 = .ok (.aload_n 1, 1) := by decide +kernel
theorem dX1_isSame_433 : decode cX1_isSame 433 = .ok (.invokevirtual 102, 3) := by decide +kernel
theorem dX1_isSame_436 : decode cX1_isSame 436 = .ok (.aload_n 0, 1) := by decide +kernel
theorem dX1_isSame_437 : decode cX1_isSame 437 = .ok (.getfield 9, 3) := by decide +kernel
theorem dX1_isSame_440 : decode cX1_isSame 440 = .ok (.arraylength, 1) := by decide +kernel
theorem dX1_isSame_441 : decode cX1_isSame 441 = .ok (.if_icmp .ne 98, 3) := by decide +kernel
theorem dX1_isSame_444 : decode cX1_isSame 444 = .ok (.aload_n 1, 1) := by decide +kernel
theorem dX1_isSame_445 : decode cX1_isSame 445 = .ok (.invokevirtual 104, 3) := by decide +kernel
theorem dX1_isSame_448 : decode cX1_isSame 448 = .ok (.aload_n 0, 1) := by decide +kernel
theorem dX1_isSame_449 : decode cX1_isSame 449 = .ok (.getfield 15, 3) := by decide +kernel
theorem dX1_isSame_452 : decode cX1_isSame 452 = .ok (.arraylength, 1) := by decide +kernel
theorem dX1_isSame_453 : decode cX1_isSame 453 = .ok (.if_icmp .ne 86, 3) := by decide +kernel
theorem dX1_isSame_456 : decode cX1_isSame 456 = .ok (.aload_n 1, 1) := by decide +kernel
theorem dX1_isSame_457 : decode cX1_isSame 457 = .ok (.invokevirtual 106, 3) := by decide +kernel
theorem dX1_isSame_460 : decode cX1_isSame 460 = .ok (.iload_n 2, 1) := by decide +kernel
theorem dX1_isSame_461 : decode cX1_isSame 461 = .ok (.if_icmp .ne 78, 3) := by decide +kernel
theorem dX1_isSame_464 : decode cX1_isSame 464 = .ok (.aload_n 1, 1) := by decide +kernel
theorem dX1_isSame_465 : decode cX1_isSame 465 = .ok (.invokevirtual 109, 3) := by decide +kernel
theorem dX1_isSame_468 : decode cX1_isSame 468 = .ok (.aload_n 0, 1) := by decide +kernel
theorem dX1_isSame_469 : decode cX1_isSame 469 = .ok (.getfield 27, 3) := by decide +kernel
theorem dX1_isSame_472 : decode cX1_isSame 472 = .ok (.if_icmp .ne 67, 3) := by decide +kernel
theorem dX1_isSame_475 : decode cX1_isSame 475 = .ok (.aload_n 1, 1) := by decide +kernel
theorem dX1_isSame_476 : decode cX1_isSame 476 = .ok (.invokevirtual 111, 3) := by decide +kernel
theorem dX1_isSame_479 : decode cX1_isSame 479 = .ok (.iload_n 3, 1) := by decide +kernel
theorem dX1_isSame_480 : decode cX1_isSame 480 = .ok (.if_icmp .ne 59, 3) := by decide +kernel
theorem dX1_isSame_483 : decode cX1_isSame 483 = .ok (.aload_n 1, 1) := by decide +kernel
theorem dX1_isSame_484 : decode cX1_isSame 484 = .ok (.invokevirtual 114, 3) := by decide +kernel
theorem dX1_isSame_487 : decode cX1_isSame 487 = .ok (.iload 4, 2) := by decide +kernel
theorem dX1_isSame_489 : decode cX1_isSame 489 = .ok (.if_icmp .ne 50, 3) := by decide +kernel
theorem dX1_isSame_492 : decode cX1_isSame 492 = .ok (.aload_n 1, 1) := by decide +kernel
theorem dX1_isSame_493 : decode cX1_isSame 493 = .ok (.invokevirtual 117, 3) := by decide +kernel
theorem dX1_isSame_496 : decode cX1_isSame 496 = .ok (.iload 5, 2) := by decide +kernel
theorem dX1_isSame_498 : decode cX1_isSame 498 = .ok (.if_icmp .ne 41, 3) := by decide +kernel
theorem dX1_isSame_501 : decode cX1_isSame 501 = .ok (.aload_n 1, 1) := by decide +kernel
theorem dX1_isSame_502 : decode cX1_isSame 502 = .ok (.invokevirtual 120, 3) := by decide +kernel
theorem dX1_isSame_505 : decode cX1_isSame 505 = .ok (.aload_n 0, 1) := by decide +kernel
theorem dX1_isSame_506 : decode cX1_isSame 506 = .ok (.iconst 0, 1) := by decide +kernel
theorem dX1_isSame_507 : decode cX1_isSame 507 = .ok (.invokevirtual 97, 3) := by decide +kernel
theorem dX1_isSame_510 : decode cX1_isSame 510 = .ok (.ifCond .ne 7, 3) := by decide +kernel
theorem dX1_isSame_513 : decode cX1_isSame 513 = .ok (.dconst 0, 1) := by decide +kernel
theorem dX1_isSame_514 : decode cX1_isSame 514 = .ok (.goto 17, 3) := by decide +kernel
theorem dX1_isSame_517 : decode cX1_isSame 517 = .ok (.aload_n 0, 1) := by decide +kernel
theorem dX1_isSame_518 : decode cX1_isSame 518 = .ok (.iconst (-1), 1) := by decide +kernel
theorem dX1_isSame_519 : decode cX1_isSame 519 = .ok (.iconst (-1), 1) := by decide +kernel
theorem dX1_isSame_520 : decode cX1_isSame 520 = .ok (.invokevirtual 46, 3) := by decide +kernel
theorem dX1_isSame_523 : decode cX1_isSame 523 = .ok (.i2d, 1) := by decide +kernel
theorem dX1_isSame_524 : decode cX1_isSame 524 = .ok (.aload_n 0, 1) := by decide +kernel
theorem dX1_isSame_525 : decode cX1_isSame 525 = .ok (.iconst 0, 1) := by decide +kernel
theorem dX1_isSame_526 : decode cX1_isSame 526 = .ok (.invokevirtual 97, 3) := by decide +kernel
theorem dX1_isSame_529 : decode cX1_isSame 529 = .ok (.i2d, 1) := by decide +kernel
theorem dX1_isSame_530 : decode cX1_isSame 530 = .ok (.ddiv, 1) := by decide +kernel
theorem dX1_isSame_531 : decode cX1_isSame 531 = .ok (.dcmp .l, 1) := by decide +kernel
theorem dX1_isSame_532 : decode cX1_isSame 532 = .ok (.ifCond .ne 7, 3) := by decide +kernel
theorem dX1_isSame_535 : decode cX1_isSame 535 = .ok (.iconst 1, 1) := by decide +kernel
theorem dX1_isSame_536 : decode cX1_isSame 536 = .ok (.goto 4, 3) := by decide +kernel
theorem dX1_isSame_539 : decode cX1_isSame 539 = .ok (.iconst 0, 1) := by decide +kernel
theorem dX1_isSame_540 : decode cX1_isSame 540 = .ok (.ireturn, 1) := by decide +kernel
