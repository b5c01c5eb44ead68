theorem dX1_init_0 : decode cX1_init 0 = .ok (.aload_n 0, 1) := by decide +kernel
theorem dX1_init_1 : decode cX1_init 1 = .ok (.invokespecial 1, 3) := by decide +kernel
theorem dX1_init_4 : decode cX1_init 4 = .ok (.aload_n 0, 1) := by decide +kernel
theorem dX1_init_5 : decode cX1_init 5 = .ok (.bipush 6, 2) := by decide +kernel
theorem dX1_init_7 : decode cX1_init 7 = .ok (.newarray .int, 2) := by decide +kernel
theorem dX1_init_9 : decode cX1_init 9 = .ok (.putfield 9, 3) := by decide +kernel
theorem dX1_init_12 : decode cX1_init 12 = .ok (.aload_n 0, 1) := by decide +kernel
theorem dX1_init_13 : decode cX1_init 13 = .ok (.bipush 6, 2) := by decide +kernel
theorem dX1_init_15 : decode cX1_init 15 = .ok (.newarray .boolean, 2) := by decide +kernel
theorem dX1_init_17 : decode cX1_init 17 = .ok (.putfield 13, 3) := by decide +kernel
theorem dX1_init_20 : decode cX1_init 20 = .ok (.aload_n 0, 1) := by decide +kernel
theorem dX1_init_21 : decode cX1_init 21 = .ok (.bipush 20, 2) := by decide +kernel
theorem dX1_init_23 : decode cX1_init 23 = .ok (.newarray .int, 2) := by decide +kernel
theorem dX1_init_25 : decode cX1_init 25 = .ok (.putfield 17, 3) := by decide +kernel
theorem dX1_init_28 : decode cX1_init 28 = .ok (.aload_n 0, 1) := by decide +kernel
theorem dX1_init_29 : decode cX1_init 29 = .ok (.bipush 20, 2) := by decide +kernel
theorem dX1_init_31 : decode cX1_init 31 = .ok (.newarray .int, 2) := by decide +kernel
theorem dX1_init_33 : decode cX1_init 33 = .ok (.putfield 20, 3) := by decide +kernel
theorem dX1_init_36 : decode cX1_init 36 = .ok (.aload_n 0, 1) := by decide +kernel
theorem dX1_init_37 : decode cX1_init 37 = .ok (.bipush 20, 2) := by decide +kernel
theorem dX1_init_39 : decode cX1_init 39 = .ok (.newarray .int, 2) := by decide +kernel
theorem dX1_init_41 : decode cX1_init 41 = .ok (.putfield 23, 3) := by decide +kernel
theorem dX1_init_44 : decode cX1_init 44 = .ok (.aload_n 0, 1) := by decide +kernel
theorem dX1_init_45 : decode cX1_init 45 = .ok (.bipush 20, 2) := by decide +kernel
theorem dX1_init_47 : decode cX1_init 47 = .ok (.newarray .int, 2) := by decide +kernel
theorem dX1_init_49 : decode cX1_init 49 = .ok (.putfield 26, 3) := by decide +kernel
theorem dX1_init_52 : decode cX1_init 52 = .ok (.aload_n 0, 1) := by decide +kernel
theorem dX1_init_53 : decode cX1_init 53 = .ok (.bipush 20, 2) := by decide +kernel
theorem dX1_init_55 : decode cX1_init 55 = .ok (.newarray .int, 2) := by decide +kernel
theorem dX1_init_57 : decode cX1_init 57 = .ok (.putfield 29, 3) := by decide +kernel
theorem dX1_init_60 : decode cX1_init 60 = .ok (.aload_n 0, 1) := by decide +kernel
theorem dX1_init_61 : decode cX1_init 61 = .ok (.bipush 20, 2) := by decide +kernel
theorem dX1_init_63 : decode cX1_init 63 = .ok (.newarray .int, 2) := by decide +kernel
theorem dX1_init_65 : decode cX1_init 65 = .ok (.putfield 32, 3) := by decide +kernel
theorem dX1_init_68 : decode cX1_init 68 = .ok (.return_, 1) := by decide +kernel
theorem dX1_thrown_0 : decode cX1_thrown 0 = .ok (.aload_n 0, 1) := by decide +kernel
theorem dX1_thrown_1 : decode cX1_thrown 1 = .ok (.getfield 35, 3) := by decide +kernel
theorem dX1_thrown_4 : decode cX1_thrown 4 = .ok (.ireturn, 1) := by decide +kernel
theorem dX1_no_0 : decode cX1_no 0 = .ok (.aload_n 0, 1) := by decide +kernel
theorem dX1_no_1 : decode cX1_no 1 = .ok (.iload_n 1, 1) := by decide +kernel
theorem dX1_no_2 : decode cX1_no 2 = .ok (.putfield 35, 3) := by decide +kernel
theorem dX1_no_5 : decode cX1_no 5 = .ok (.iconst 0, 1) := by decide +kernel
theorem dX1_no_6 : decode cX1_no 6 = .ok (.ireturn, 1) := by decide +kernel
theorem dX1_isNot_0 : decode cX1_isNot 0 = .ok (.aload_n 0, 1) := by decide +kernel
theorem dX1_isNot_1 : decode cX1_isNot 1 = .ok (.iload_n 1, 1) := by decide +kernel
theorem dX1_isNot_2 : decode cX1_isNot 2 = .ok (.putfield 35, 3) := by decide +kernel
theorem dX1_isNot_5 : decode cX1_isNot 5 = .ok (.iconst 0, 1) := by decide +kernel
theorem dX1_isNot_6 : decode cX1_isNot 6 = .ok (.ireturn, 1) := by decide +kernel
theorem dX1_ok_0 : decode cX1_ok 0 = .ok (.aload_n 0, 1) := by decide +kernel
theorem dX1_ok_1 : decode cX1_ok 1 = .ok (.iconst 0, 1) := by decide +kernel
theorem dX1_ok_2 : decode cX1_ok 2 = .ok (.putfield 35, 3) := by decide +kernel
theorem dX1_ok_5 : decode cX1_ok 5 = .ok (.iload_n 1, 1) := by decide +kernel
theorem dX1_ok_6 : decode cX1_ok 6 = .ok (.ireturn, 1) := by decide +kernel
theorem dX1_isIn_0 : decode cX1_isIn 0 = .ok (.iload_n 0, 1) := by decide +kernel
theorem dX1_isIn_1 : decode cX1_isIn 1 = .ok (.iload_n 1, 1) := by decide +kernel
theorem dX1_isIn_2 : decode cX1_isIn 2 = .ok (.if_icmp .lt 12, 3) := by decide +kernel
theorem dX1_isIn_5 : decode cX1_isIn 5 = .ok (.iload_n 0, 1) := by decide +kernel
theorem dX1_isIn_6 : decode cX1_isIn 6 = .ok (.iload_n 2, 1) := by decide +kernel
theorem dX1_isIn_7 : decode cX1_isIn 7 = .ok (.if_icmp .gt 7, 3) := by decide +kernel
theorem dX1_isIn_10 : decode cX1_isIn 10 = .ok (.iconst 1, 1) := by decide +kernel
theorem dX1_isIn_11 : decode cX1_isIn 11 = .ok (.goto 4, 3) := by decide +kernel
theorem dX1_isIn_14 : decode cX1_isIn 14 = .ok (.iconst 0, 1) := by decide +kernel
theorem dX1_isIn_15 : decode cX1_isIn 15 = .ok (.ireturn, 1) := by decide +kernel
set_option maxRecDepth 20000 in
theorem ggX1_isPerson_X1_isIn : GoodIn wsX1_isPerson wsX1_isIn := goodIn_r _ [5] (by decide +kernel) (by decide +kernel)
set_option maxRecDepth 20000 in
theorem gX1_isPerson_X1_isIn : GoodIn wsX1_isPerson (va_wsS RX1 42 yX1_isIn wsX1_isIn) := goodIn_app (goodIn_of _ (by decide +kernel)) ggX1_isPerson_X1_isIn
theorem dX1_isPerson_0 : decode cX1_isPerson 0 = .ok (.iload_n 1, 1) := by decide +kernel
theorem dX1_isPerson_1 : decode cX1_isPerson 1 = .ok (.iconst 0, 1) := by decide +kernel
theorem dX1_isPerson_2 : decode cX1_isPerson 2 = .ok (.aload_n 0, 1) := by decide +kernel
theorem dX1_isPerson_3 : decode cX1_isPerson 3 = .ok (.getfield 39, 3) := by decide +kernel
theorem dX1_isPerson_6 : decode cX1_isPerson 6 = .ok (.iconst 1, 1) := by decide +kernel
theorem dX1_isPerson_7 : decode cX1_isPerson 7 = .ok (.isub, 1) := by decide +kernel
theorem dX1_isPerson_8 : decode cX1_isPerson 8 = .ok (.invokestatic 42, 3) := by decide +kernel
theorem dX1_isPerson_11 : decode cX1_isPerson 11 = .ok (.ireturn, 1) := by decide +kernel
set_option maxRecDepth 20000 in
theorem ggX1_isSlight_X1_isIn : GoodIn wsX1_isSlight wsX1_isIn := goodIn_r _ [5] (by decide +kernel) (by decide +kernel)
set_option maxRecDepth 20000 in
theorem gX1_isSlight_X1_isIn : GoodIn wsX1_isSlight (va_wsS RX1 42 yX1_isIn wsX1_isIn) := goodIn_app (goodIn_of _ (by decide +kernel)) ggX1_isSlight_X1_isIn
theorem dX1_isSlight_0 : decode cX1_isSlight 0 = .ok (.iload_n 1, 1) := by decide +kernel
theorem dX1_isSlight_1 : decode cX1_isSlight 1 = .ok (.iconst 0, 1) := by decide +kernel
theorem dX1_isSlight_2 : decode cX1_isSlight 2 = .ok (.aload_n 0, 1) := by decide +kernel
theorem dX1_isSlight_3 : decode cX1_isSlight 3 = .ok (.getfield 46, 3) := by decide +kernel
theorem dX1_isSlight_6 : decode cX1_isSlight 6 = .ok (.iconst 1, 1) := by decide +kernel
theorem dX1_isSlight_7 : decode cX1_isSlight 7 = .ok (.isub, 1) := by decide +kernel
theorem dX1_isSlight_8 : decode cX1_isSlight 8 = .ok (.invokestatic 42, 3) := by decide +kernel
theorem dX1_isSlight_11 : decode cX1_isSlight 11 = .ok (.ireturn, 1) := by decide +kernel
theorem dX1_isOpen_0 : decode cX1_isOpen 0 = .ok (.aload_n 0, 1) := by decide +kernel
theorem dX1_isOpen_1 : decode cX1_isOpen 1 = .ok (.getfield 26, 3) := by decide +kernel
theorem dX1_isOpen_4 : decode cX1_isOpen 4 = .ok (.iload_n 1, 1) := by decide +kernel
theorem dX1_isOpen_5 : decode cX1_isOpen 5 = .ok (.iaload, 1) := by decide +kernel
theorem dX1_isOpen_6 : decode cX1_isOpen 6 = .ok (.ifCond .ne 7, 3) := by decide +kernel
theorem dX1_isOpen_9 : decode cX1_isOpen 9 = .ok (.iconst 1, 1) := by decide +kernel
theorem dX1_isOpen_10 : decode cX1_isOpen 10 = .ok (.goto 4, 3) := by decide +kernel
theorem dX1_isOpen_13 : decode cX1_isOpen 13 = .ok (.iconst 0, 1) := by decide +kernel
theorem dX1_isOpen_14 : decode cX1_isOpen 14 = .ok (.ireturn, 1) := by decide +kernel
theorem dX1_close_0 : decode cX1_close 0 = .ok (.aload_n 0, 1) := by decide +kernel
theorem dX1_close_1 : decode cX1_close 1 = .ok (.getfield 26, 3) := by decide +kernel
theorem dX1_close_4 : decode cX1_close 4 = .ok (.iload_n 1, 1) := by decide +kernel
theorem dX1_close_5 : decode cX1_close 5 = .ok (.iload_n 2, 1) := by decide +kernel
theorem dX1_close_6 : decode cX1_close 6 = .ok (.iastore, 1) := by decide +kernel
theorem dX1_close_7 : decode cX1_close 7 = .ok (.aload_n 0, 1) := by decide +kernel
theorem dX1_close_8 : decode cX1_close 8 = .ok (.getfield 23, 3) := by decide +kernel
theorem dX1_close_11 : decode cX1_close 11 = .ok (.iload_n 1, 1) := by decide +kernel
theorem dX1_close_12 : decode cX1_close 12 = .ok (.iconst 0, 1) := by decide +kernel
theorem dX1_close_13 : decode cX1_close 13 = .ok (.iastore, 1) := by decide +kernel
theorem dX1_close_14 : decode cX1_close 14 = .ok (.return_, 1) := by decide +kernel
theorem dX1_speak_0 : decode cX1_speak 0 = .ok (.aload_n 0, 1) := by decide +kernel
theorem dX1_speak_1 : decode cX1_speak 1 = .ok (.getfield 23, 3) := by decide +kernel
theorem dX1_speak_4 : decode cX1_speak 4 = .ok (.iload_n 1, 1) := by decide +kernel
theorem dX1_speak_5 : decode cX1_speak 5 = .ok (.bipush 99, 2) := by decide +kernel
theorem dX1_speak_7 : decode cX1_speak 7 = .ok (.aload_n 0, 1) := by decide +kernel
theorem dX1_speak_8 : decode cX1_speak 8 = .ok (.getfield 23, 3) := by decide +kernel
theorem dX1_speak_11 : decode cX1_speak 11 = .ok (.iload_n 1, 1) := by decide +kernel
theorem dX1_speak_12 : decode cX1_speak 12 = .ok (.iaload, 1) := by decide +kernel
theorem dX1_speak_13 : decode cX1_speak 13 = .ok (.iconst 1, 1) := by decide +kernel
theorem dX1_speak_14 : decode cX1_speak 14 = .ok (.iadd, 1) := by decide +kernel
theorem dX1_speak_15 : decode cX1_speak 15 = .ok (.invokestatic 49, 3) := by decide +kernel
theorem dX1_speak_18 : decode cX1_speak 18 = .ok (.iastore, 1) := by decide +kernel
theorem dX1_speak_19 : decode cX1_speak 19 = .ok (.aload_n 0, 1) := by decide +kernel
theorem dX1_speak_20 : decode cX1_speak 20 = .ok (.getfield 32, 3) := by decide +kernel
theorem dX1_speak_23 : decode cX1_speak 23 = .ok (.iload_n 1, 1) := by decide +kernel
theorem dX1_speak_24 : decode cX1_speak 24 = .ok (.iconst 0, 1) := by decide +kernel
theorem dX1_speak_25 : decode cX1_speak 25 = .ok (.iastore, 1) := by decide +kernel
theorem dX1_speak_26 : decode cX1_speak 26 = .ok (.return_, 1) := by decide +kernel
theorem dX1_witnesses_0 : decode cX1_witnesses 0 = .ok (.iconst 0, 1) := by decide +kernel
theorem dX1_witnesses_1 : decode cX1_witnesses 1 = .ok (.istore_n 2, 1) := by decide +kernel
theorem dX1_witnesses_2 : decode cX1_witnesses 2 = .ok (.iconst 0, 1) := by decide +kernel
theorem dX1_witnesses_3 : decode cX1_witnesses 3 = .ok (.istore_n 3, 1) := by decide +kernel
theorem dX1_witnesses_4 : decode cX1_witnesses 4 = .ok (.iload_n 3, 1) := by decide +kernel
theorem dX1_witnesses_5 : decode cX1_witnesses 5 = .ok (.aload_n 0, 1) := by decide +kernel
theorem dX1_witnesses_6 : decode cX1_witnesses 6 = .ok (.getfield 39, 3) := by decide +kernel
theorem dX1_witnesses_9 : decode cX1_witnesses 9 = .ok (.if_icmp .ge 46, 3) := by decide +kernel
theorem dX1_witnesses_12 : decode cX1_witnesses 12 = .ok (.iload_n 2, 1) := by decide +kernel
theorem dX1_witnesses_13 : decode cX1_witnesses 13 = .ok (.aload_n 0, 1) := by decide +kernel
theorem dX1_witnesses_14 : decode cX1_witnesses 14 = .ok (.getfield 13, 3) := by decide +kernel
theorem dX1_witnesses_17 : decode cX1_witnesses 17 = .ok (.iload_n 3, 1) := by decide +kernel
theorem dX1_witnesses_18 : decode cX1_witnesses 18 = .ok (.baload, 1) := by decide +kernel
theorem dX1_witnesses_19 : decode cX1_witnesses 19 = .ok (.ifCond .eq 27, 3) := by decide +kernel
theorem dX1_witnesses_22 : decode cX1_witnesses 22 = .ok (.iload_n 3, 1) := by decide +kernel
theorem dX1_witnesses_23 : decode cX1_witnesses 23 = .ok (.aload_n 0, 1) := by decide +kernel
theorem dX1_witnesses_24 : decode cX1_witnesses 24 = .ok (.getfield 17, 3) := by decide +kernel
theorem dX1_witnesses_27 : decode cX1_witnesses 27 = .ok (.iload_n 1, 1) := by decide +kernel
theorem dX1_witnesses_28 : decode cX1_witnesses 28 = .ok (.iaload, 1) := by decide +kernel
theorem dX1_witnesses_29 : decode cX1_witnesses 29 = .ok (.if_icmp .eq 17, 3) := by decide +kernel
theorem dX1_witnesses_32 : decode cX1_witnesses 32 = .ok (.iload_n 3, 1) := by decide +kernel
theorem dX1_witnesses_33 : decode cX1_witnesses 33 = .ok (.aload_n 0, 1) := by decide +kernel
theorem dX1_witnesses_34 : decode cX1_witnesses 34 = .ok (.getfield 20, 3) := by decide +kernel
theorem dX1_witnesses_37 : decode cX1_witnesses 37 = .ok (.iload_n 1, 1) := by decide +kernel
theorem dX1_witnesses_38 : decode cX1_witnesses 38 = .ok (.iaload, 1) := by decide +kernel
theorem dX1_witnesses_39 : decode cX1_witnesses 39 = .ok (.if_icmp .eq 7, 3) := by decide +kernel
theorem dX1_witnesses_42 : decode cX1_witnesses 42 = .ok (.iconst 1, 1) := by decide +kernel
theorem dX1_witnesses_43 : decode cX1_witnesses 43 = .ok (.goto 4, 3) := by decide +kernel
theorem dX1_witnesses_46 : decode cX1_witnesses 46 = .ok (.iconst 0, 1) := by decide +kernel
theorem dX1_witnesses_47 : decode cX1_witnesses 47 = .ok (.iadd, 1) := by decide +kernel
theorem dX1_witnesses_48 : decode cX1_witnesses 48 = .ok (.istore_n 2, 1) := by decide +kernel
theorem dX1_witnesses_49 : decode cX1_witnesses 49 = .ok (.iinc 3 1, 3) := by decide +kernel
theorem dX1_witnesses_52 : decode cX1_witnesses 52 = .ok (.goto (-48), 3) := by decide +kernel
theorem dX1_witnesses_55 : decode cX1_witnesses 55 = .ok (.iload_n 2, 1) := by decide +kernel
theorem dX1_witnesses_56 : decode cX1_witnesses 56 = .ok (.ireturn, 1) := by decide +kernel
theorem dX1_grown_0 : decode cX1_grown 0 = .ok (.bipush 99, 2) := by decide +kernel
theorem dX1_grown_2 : decode cX1_grown 2 = .ok (.iload_n 0, 1) := by decide +kernel
theorem dX1_grown_3 : decode cX1_grown 3 = .ok (.iconst 1, 1) := by decide +kernel
theorem dX1_grown_4 : decode cX1_grown 4 = .ok (.iload_n 0, 1) := by decide +kernel
theorem dX1_grown_5 : decode cX1_grown 5 = .ok (.bipush 10, 2) := by decide +kernel
theorem dX1_grown_7 : decode cX1_grown 7 = .ok (.idiv, 1) := by decide +kernel
theorem dX1_grown_8 : decode cX1_grown 8 = .ok (.invokestatic 55, 3) := by decide +kernel
theorem dX1_grown_11 : decode cX1_grown 11 = .ok (.iadd, 1) := by decide +kernel
theorem dX1_grown_12 : decode cX1_grown 12 = .ok (.invokestatic 49, 3) := by decide +kernel
theorem dX1_grown_15 : decode cX1_grown 15 = .ok (.ireturn, 1) := by decide +kernel
set_option maxRecDepth 20000 in
theorem ggX1_later_X1_isOpen : GoodIn wsX1_later wsX1_isOpen := goodIn_r _ [8, 9, 20, 21, 22, 23, 24, 25, 26, 27, 28, 29, 30, 31, 32] (by decide +kernel) (by decide +kernel)
set_option maxRecDepth 20000 in
theorem gX1_later_X1_isOpen : GoodIn wsX1_later (wsV RX1 58 RX1 yX1_isOpen wsX1_isOpen) := goodIn_app (goodIn_of _ (by decide +kernel)) ggX1_later_X1_isOpen
set_option maxRecDepth 20000 in
theorem ggX1_later_X1_grown : GoodIn wsX1_later wsX1_grown := goodIn_r _ [12, 13, 14, 15, 16, 17, 18, 19] (by decide +kernel) (by decide +kernel)
set_option maxRecDepth 20000 in
theorem gX1_later_X1_grown : GoodIn wsX1_later (va_wsS RX1 62 yX1_grown wsX1_grown) := goodIn_app (goodIn_of _ (by decide +kernel)) ggX1_later_X1_grown
theorem dX1_later_0 : decode cX1_later 0 = .ok (.aload_n 0, 1) := by decide +kernel
theorem dX1_later_1 : decode cX1_later 1 = .ok (.iload_n 1, 1) := by decide +kernel
theorem dX1_later_2 : decode cX1_later 2 = .ok (.invokevirtual 58, 3) := by decide +kernel
theorem dX1_later_5 : decode cX1_later 5 = .ok (.ifCond .eq 16, 3) := by decide +kernel
theorem dX1_later_8 : decode cX1_later 8 = .ok (.aload_n 0, 1) := by decide +kernel
theorem dX1_later_9 : decode cX1_later 9 = .ok (.getfield 32, 3) := by decide +kernel
theorem dX1_later_12 : decode cX1_later 12 = .ok (.iload_n 1, 1) := by decide +kernel
theorem dX1_later_13 : decode cX1_later 13 = .ok (.iaload, 1) := by decide +kernel
theorem dX1_later_14 : decode cX1_later 14 = .ok (.iload_n 2, 1) := by decide +kernel
theorem dX1_later_15 : decode cX1_later 15 = .ok (.iadd, 1) := by decide +kernel
theorem dX1_later_16 : decode cX1_later 16 = .ok (.bipush 30, 2) := by decide +kernel
theorem dX1_later_18 : decode cX1_later 18 = .ok (.if_icmp .lt 5, 3) := by decide +kernel
theorem dX1_later_21 : decode cX1_later 21 = .ok (.iconst 0, 1) := by decide +kernel
theorem dX1_later_22 : decode cX1_later 22 = .ok (.ireturn, 1) := by decide +kernel
theorem dX1_later_23 : decode cX1_later 23 = .ok (.aload_n 0, 1) := by decide +kernel
theorem dX1_later_24 : decode cX1_later 24 = .ok (.getfield 23, 3) := by decide +kernel
theorem dX1_later_27 : decode cX1_later 27 = .ok (.iload_n 1, 1) := by decide +kernel
theorem dX1_later_28 : decode cX1_later 28 = .ok (.iaload, 1) := by decide +kernel
theorem dX1_later_29 : decode cX1_later 29 = .ok (.istore_n 3, 1) := by decide +kernel
theorem dX1_later_30 : decode cX1_later 30 = .ok (.aload_n 0, 1) := by decide +kernel
theorem dX1_later_31 : decode cX1_later 31 = .ok (.getfield 29, 3) := by decide +kernel
theorem dX1_later_34 : decode cX1_later 34 = .ok (.iload_n 1, 1) := by decide +kernel
theorem dX1_later_35 : decode cX1_later 35 = .ok (.iaload, 1) := by decide +kernel
theorem dX1_later_36 : decode cX1_later 36 = .ok (.iload_n 2, 1) := by decide +kernel
theorem dX1_later_37 : decode cX1_later 37 = .ok (.iadd, 1) := by decide +kernel
theorem dX1_later_38 : decode cX1_later 38 = .ok (.iconst 5, 1) := by decide +kernel
theorem dX1_later_39 : decode cX1_later 39 = .ok (.idiv, 1) := by decide +kernel
theorem dX1_later_40 : decode cX1_later 40 = .ok (.aload_n 0, 1) := by decide +kernel
theorem dX1_later_41 : decode cX1_later 41 = .ok (.getfield 29, 3) := by decide +kernel
theorem dX1_later_44 : decode cX1_later 44 = .ok (.iload_n 1, 1) := by decide +kernel
theorem dX1_later_45 : decode cX1_later 45 = .ok (.iaload, 1) := by decide +kernel
theorem dX1_later_46 : decode cX1_later 46 = .ok (.iconst 5, 1) := by decide +kernel
theorem dX1_later_47 : decode cX1_later 47 = .ok (.idiv, 1) := by decide +kernel
theorem dX1_later_48 : decode cX1_later 48 = .ok (.isub, 1) := by decide +kernel
theorem dX1_later_49 : decode cX1_later 49 = .ok (.istore 4, 2) := by decide +kernel
theorem dX1_later_51 : decode cX1_later 51 = .ok (.iload 4, 2) := by decide +kernel
theorem dX1_later_53 : decode cX1_later 53 = .ok (.ifCond .le 14, 3) := by decide +kernel
theorem dX1_later_56 : decode cX1_later 56 = .ok (.iload_n 3, 1) := by decide +kernel
theorem dX1_later_57 : decode cX1_later 57 = .ok (.invokestatic 62, 3) := by decide +kernel
theorem dX1_later_60 : decode cX1_later 60 = .ok (.istore_n 3, 1) := by decide +kernel
theorem dX1_later_61 : decode cX1_later 61 = .ok (.iinc 4 (-1), 3) := by decide +kernel
theorem dX1_later_64 : decode cX1_later 64 = .ok (.goto (-13), 3) := by decide +kernel
theorem dX1_later_67 : decode cX1_later 67 = .ok (.iload_n 3, 1) := by decide +kernel
theorem dX1_later_68 : decode cX1_later 68 = .ok (.ireturn, 1) := by decide +kernel
set_option maxRecDepth 20000 in
theorem ggX1_isScorned_X1_witnesses : GoodIn wsX1_isScorned wsX1_witnesses := goodIn_r _ [8, 9, 10, 11, 2, 12, 13, 14, 15, 16, 17, 18, 19, 20, 21, 22, 23, 24] (by decide +kernel) (by decide +kernel)
set_option maxRecDepth 20000 in
theorem gX1_isScorned_X1_witnesses : GoodIn wsX1_isScorned (wsV RX1 66 RX1 yX1_witnesses wsX1_witnesses) := goodIn_app (goodIn_of _ (by decide +kernel)) ggX1_isScorned_X1_witnesses
theorem dX1_isScorned_0 : decode cX1_isScorned 0 = .ok (.iload_n 2, 1) := by decide +kernel
theorem dX1_isScorned_1 : decode cX1_isScorned 1 = .ok (.iconst 2, 1) := by decide +kernel
theorem dX1_isScorned_2 : decode cX1_isScorned 2 = .ok (.aload_n 0, 1) := by decide +kernel
theorem dX1_isScorned_3 : decode cX1_isScorned 3 = .ok (.iload_n 1, 1) := by decide +kernel
theorem dX1_isScorned_4 : decode cX1_isScorned 4 = .ok (.invokevirtual 66, 3) := by decide +kernel
theorem dX1_isScorned_7 : decode cX1_isScorned 7 = .ok (.imul, 1) := by decide +kernel
theorem dX1_isScorned_8 : decode cX1_isScorned 8 = .ok (.iadd, 1) := by decide +kernel
theorem dX1_isScorned_9 : decode cX1_isScorned 9 = .ok (.istore_n 3, 1) := by decide +kernel
theorem dX1_isScorned_10 : decode cX1_isScorned 10 = .ok (.iload_n 3, 1) := by decide +kernel
theorem dX1_isScorned_11 : decode cX1_isScorned 11 = .ok (.aload_n 0, 1) := by decide +kernel
theorem dX1_isScorned_12 : decode cX1_isScorned 12 = .ok (.getfield 9, 3) := by decide +kernel
theorem dX1_isScorned_15 : decode cX1_isScorned 15 = .ok (.aload_n 0, 1) := by decide +kernel
theorem dX1_isScorned_16 : decode cX1_isScorned 16 = .ok (.getfield 20, 3) := by decide +kernel
theorem dX1_isScorned_19 : decode cX1_isScorned 19 = .ok (.iload_n 1, 1) := by decide +kernel
theorem dX1_isScorned_20 : decode cX1_isScorned 20 = .ok (.iaload, 1) := by decide +kernel
theorem dX1_isScorned_21 : decode cX1_isScorned 21 = .ok (.iaload, 1) := by decide +kernel
theorem dX1_isScorned_22 : decode cX1_isScorned 22 = .ok (.if_icmp .lt 15, 3) := by decide +kernel
theorem dX1_isScorned_25 : decode cX1_isScorned 25 = .ok (.iload_n 3, 1) := by decide +kernel
theorem dX1_isScorned_26 : decode cX1_isScorned 26 = .ok (.aload_n 0, 1) := by decide +kernel
theorem dX1_isScorned_27 : decode cX1_isScorned 27 = .ok (.getfield 23, 3) := by decide +kernel
theorem dX1_isScorned_30 : decode cX1_isScorned 30 = .ok (.iload_n 1, 1) := by decide +kernel
theorem dX1_isScorned_31 : decode cX1_isScorned 31 = .ok (.iaload, 1) := by decide +kernel
theorem dX1_isScorned_32 : decode cX1_isScorned 32 = .ok (.iconst 4, 1) := by decide +kernel
theorem dX1_isScorned_33 : decode cX1_isScorned 33 = .ok (.idiv, 1) := by decide +kernel
theorem dX1_isScorned_34 : decode cX1_isScorned 34 = .ok (.if_icmp .ge 7, 3) := by decide +kernel
theorem dX1_isScorned_37 : decode cX1_isScorned 37 = .ok (.iconst 1, 1) := by decide +kernel
theorem dX1_isScorned_38 : decode cX1_isScorned 38 = .ok (.goto 4, 3) := by decide +kernel
theorem dX1_isScorned_41 : decode cX1_isScorned 41 = .ok (.iconst 0, 1) := by decide +kernel
theorem dX1_isScorned_42 : decode cX1_isScorned 42 = .ok (.ireturn, 1) := by decide +kernel
set_option maxRecDepth 20000 in
theorem ggX1_addPerson_X1_isIn : GoodIn wsX1_addPerson wsX1_isIn := goodIn_r _ [7] (by decide +kernel) (by decide +kernel)
set_option maxRecDepth 20000 in
theorem gX1_addPerson_X1_isIn : GoodIn wsX1_addPerson (va_wsS RX1 42 yX1_isIn wsX1_isIn) := goodIn_app (goodIn_of _ (by decide +kernel)) ggX1_addPerson_X1_isIn
set_option maxRecDepth 20000 in
theorem ggX1_addPerson_X1_no : GoodIn wsX1_addPerson wsX1_no := goodIn_r _ [11, 1, 12, 13, 14, 15, 16, 17, 18, 19, 20, 21, 22, 23, 24] (by decide +kernel) (by decide +kernel)
set_option maxRecDepth 20000 in
theorem gX1_addPerson_X1_no : GoodIn wsX1_addPerson (wsV RX1 69 RX1 yX1_no wsX1_no) := goodIn_app (goodIn_of _ (by decide +kernel)) ggX1_addPerson_X1_no
theorem dX1_addPerson_0 : decode cX1_addPerson 0 = .ok (.aload_n 0, 1) := by decide +kernel
theorem dX1_addPerson_1 : decode cX1_addPerson 1 = .ok (.iconst 0, 1) := by decide +kernel
theorem dX1_addPerson_2 : decode cX1_addPerson 2 = .ok (.putfield 35, 3) := by decide +kernel
theorem dX1_addPerson_5 : decode cX1_addPerson 5 = .ok (.iload_n 1, 1) := by decide +kernel
theorem dX1_addPerson_6 : decode cX1_addPerson 6 = .ok (.iconst 0, 1) := by decide +kernel
theorem dX1_addPerson_7 : decode cX1_addPerson 7 = .ok (.bipush 9, 2) := by decide +kernel
theorem dX1_addPerson_9 : decode cX1_addPerson 9 = .ok (.invokestatic 42, 3) := by decide +kernel
theorem dX1_addPerson_12 : decode cX1_addPerson 12 = .ok (.ifCond .ne 9, 3) := by decide +kernel
theorem dX1_addPerson_15 : decode cX1_addPerson 15 = .ok (.aload_n 0, 1) := by decide +kernel
theorem dX1_addPerson_16 : decode cX1_addPerson 16 = .ok (.iconst 1, 1) := by decide +kernel
theorem dX1_addPerson_17 : decode cX1_addPerson 17 = .ok (.invokevirtual 69, 3) := by decide +kernel
theorem dX1_addPerson_20 : decode cX1_addPerson 20 = .ok (.ireturn, 1) := by decide +kernel
theorem dX1_addPerson_21 : decode cX1_addPerson 21 = .ok (.aload_n 0, 1) := by decide +kernel
theorem dX1_addPerson_22 : decode cX1_addPerson 22 = .ok (.getfield 39, 3) := by decide +kernel
theorem dX1_addPerson_25 : decode cX1_addPerson 25 = .ok (.bipush 6, 2) := by decide +kernel
theorem dX1_addPerson_27 : decode cX1_addPerson 27 = .ok (.if_icmp .ne 9, 3) := by decide +kernel
theorem dX1_addPerson_30 : decode cX1_addPerson 30 = .ok (.aload_n 0, 1) := by decide +kernel
theorem dX1_addPerson_31 : decode cX1_addPerson 31 = .ok (.iconst 2, 1) := by decide +kernel
theorem dX1_addPerson_32 : decode cX1_addPerson 32 = .ok (.invokevirtual 69, 3) := by decide +kernel
theorem dX1_addPerson_35 : decode cX1_addPerson 35 = .ok (.ireturn, 1) := by decide +kernel
theorem dX1_addPerson_36 : decode cX1_addPerson 36 = .ok (.aload_n 0, 1) := by decide +kernel
theorem dX1_addPerson_37 : decode cX1_addPerson 37 = .ok (.getfield 9, 3) := by decide +kernel
theorem dX1_addPerson_40 : decode cX1_addPerson 40 = .ok (.aload_n 0, 1) := by decide +kernel
theorem dX1_addPerson_41 : decode cX1_addPerson 41 = .ok (.getfield 39, 3) := by decide +kernel
theorem dX1_addPerson_44 : decode cX1_addPerson 44 = .ok (.iload_n 1, 1) := by decide +kernel
theorem dX1_addPerson_45 : decode cX1_addPerson 45 = .ok (.iastore, 1) := by decide +kernel
theorem dX1_addPerson_46 : decode cX1_addPerson 46 = .ok (.aload_n 0, 1) := by decide +kernel
theorem dX1_addPerson_47 : decode cX1_addPerson 47 = .ok (.dup, 1) := by decide +kernel
theorem dX1_addPerson_48 : decode cX1_addPerson 48 = .ok (.getfield 39, 3) := by decide +kernel
theorem dX1_addPerson_51 : decode cX1_addPerson 51 = .ok (.iconst 1, 1) := by decide +kernel
theorem dX1_addPerson_52 : decode cX1_addPerson 52 = .ok (.iadd, 1) := by decide +kernel
theorem dX1_addPerson_53 : decode cX1_addPerson 53 = .ok (.putfield 39, 3) := by decide +kernel
theorem dX1_addPerson_56 : decode cX1_addPerson 56 = .ok (.aload_n 0, 1) := by decide +kernel
theorem dX1_addPerson_57 : decode cX1_addPerson 57 = .ok (.getfield 39, 3) := by decide +kernel
theorem dX1_addPerson_60 : decode cX1_addPerson 60 = .ok (.iconst 1, 1) := by decide +kernel
theorem dX1_addPerson_61 : decode cX1_addPerson 61 = .ok (.isub, 1) := by decide +kernel
theorem dX1_addPerson_62 : decode cX1_addPerson 62 = .ok (.ireturn, 1) := by decide +kernel
set_option maxRecDepth 20000 in
theorem ggX1_enter_X1_isPerson : GoodIn wsX1_enter wsX1_isPerson := goodIn_r _ [7, 8, 9, 10, 6, 11, 16, 17, 18, 19, 20, 21, 22, 23, 24, 25, 26, 27, 28] (by decide +kernel) (by decide +kernel)
set_option maxRecDepth 20000 in
theorem gX1_enter_X1_isPerson : GoodIn wsX1_enter (wsV RX1 72 RX1 yX1_isPerson wsX1_isPerson) := goodIn_app (goodIn_of _ (by decide +kernel)) ggX1_enter_X1_isPerson
set_option maxRecDepth 20000 in
theorem ggX1_enter_X1_isNot : GoodIn wsX1_enter wsX1_isNot := goodIn_r _ [15, 1, 16, 17, 18, 19, 20, 21, 22, 23, 24, 25, 26, 27, 28] (by decide +kernel) (by decide +kernel)
set_option maxRecDepth 20000 in
theorem gX1_enter_X1_isNot : GoodIn wsX1_enter (wsV RX1 75 RX1 yX1_isNot wsX1_isNot) := goodIn_app (goodIn_of _ (by decide +kernel)) ggX1_enter_X1_isNot
theorem dX1_enter_0 : decode cX1_enter 0 = .ok (.aload_n 0, 1) := by decide +kernel
theorem dX1_enter_1 : decode cX1_enter 1 = .ok (.iconst 0, 1) := by decide +kernel
theorem dX1_enter_2 : decode cX1_enter 2 = .ok (.putfield 35, 3) := by decide +kernel
theorem dX1_enter_5 : decode cX1_enter 5 = .ok (.aload_n 0, 1) := by decide +kernel
theorem dX1_enter_6 : decode cX1_enter 6 = .ok (.iload_n 1, 1) := by decide +kernel
theorem dX1_enter_7 : decode cX1_enter 7 = .ok (.invokevirtual 72, 3) := by decide +kernel
theorem dX1_enter_10 : decode cX1_enter 10 = .ok (.ifCond .ne 9, 3) := by decide +kernel
theorem dX1_enter_13 : decode cX1_enter 13 = .ok (.aload_n 0, 1) := by decide +kernel
theorem dX1_enter_14 : decode cX1_enter 14 = .ok (.iconst 1, 1) := by decide +kernel
theorem dX1_enter_15 : decode cX1_enter 15 = .ok (.invokevirtual 75, 3) := by decide +kernel
theorem dX1_enter_18 : decode cX1_enter 18 = .ok (.ireturn, 1) := by decide +kernel
theorem dX1_enter_19 : decode cX1_enter 19 = .ok (.aload_n 0, 1) := by decide +kernel
theorem dX1_enter_20 : decode cX1_enter 20 = .ok (.getfield 13, 3) := by decide +kernel
theorem dX1_enter_23 : decode cX1_enter 23 = .ok (.iload_n 1, 1) := by decide +kernel
theorem dX1_enter_24 : decode cX1_enter 24 = .ok (.aload_n 0, 1) := by decide +kernel
theorem dX1_enter_25 : decode cX1_enter 25 = .ok (.getfield 13, 3) := by decide +kernel
theorem dX1_enter_28 : decode cX1_enter 28 = .ok (.iload_n 1, 1) := by decide +kernel
theorem dX1_enter_29 : decode cX1_enter 29 = .ok (.baload, 1) := by decide +kernel
theorem dX1_enter_30 : decode cX1_enter 30 = .ok (.ifCond .ne 7, 3) := by decide +kernel
theorem dX1_enter_33 : decode cX1_enter 33 = .ok (.iconst 1, 1) := by decide +kernel
theorem dX1_enter_34 : decode cX1_enter 34 = .ok (.goto 4, 3) := by decide +kernel
theorem dX1_enter_37 : decode cX1_enter 37 = .ok (.iconst 0, 1) := by decide +kernel
theorem dX1_enter_38 : decode cX1_enter 38 = .ok (.bastore, 1) := by decide +kernel
theorem dX1_enter_39 : decode cX1_enter 39 = .ok (.aload_n 0, 1) := by decide +kernel
theorem dX1_enter_40 : decode cX1_enter 40 = .ok (.getfield 13, 3) := by decide +kernel
theorem dX1_enter_43 : decode cX1_enter 43 = .ok (.iload_n 1, 1) := by decide +kernel
theorem dX1_enter_44 : decode cX1_enter 44 = .ok (.baload, 1) := by decide +kernel
theorem dX1_enter_45 : decode cX1_enter 45 = .ok (.ireturn, 1) := by decide +kernel
set_option maxRecDepth 20000 in
theorem ggX1_slight_X1_isPerson : GoodIn wsX1_slight wsX1_isPerson := goodIn_r _ [10, 11, 12, 13, 9, 14, 19, 20, 21, 22, 23, 24, 25, 26, 27, 28, 29, 30, 31] (by decide +kernel) (by decide +kernel)
set_option maxRecDepth 20000 in
theorem gX1_slight_X1_isPerson : GoodIn wsX1_slight (wsV RX1 72 RX1 yX1_isPerson wsX1_isPerson) := goodIn_app (goodIn_of _ (by decide +kernel)) ggX1_slight_X1_isPerson
set_option maxRecDepth 20000 in
theorem ggX1_slight_X1_no : GoodIn wsX1_slight wsX1_no := goodIn_r _ [18, 1, 19, 20, 21, 22, 23, 24, 25, 26, 27, 28, 29, 30, 31] (by decide +kernel) (by decide +kernel)
set_option maxRecDepth 20000 in
theorem gX1_slight_X1_no : GoodIn wsX1_slight (wsV RX1 69 RX1 yX1_no wsX1_no) := goodIn_app (goodIn_of _ (by decide +kernel)) ggX1_slight_X1_no
set_option maxRecDepth 20000 in
theorem ggX1_slight_X1_isIn : GoodIn wsX1_slight wsX1_isIn := goodIn_r _ [14] (by decide +kernel) (by decide +kernel)
set_option maxRecDepth 20000 in
theorem gX1_slight_X1_isIn : GoodIn wsX1_slight (va_wsS RX1 42 yX1_isIn wsX1_isIn) := goodIn_app (goodIn_of _ (by decide +kernel)) ggX1_slight_X1_isIn
theorem dX1_slight_0 : decode cX1_slight 0 = .ok (.aload_n 0, 1) := by decide +kernel
theorem dX1_slight_1 : decode cX1_slight 1 = .ok (.iconst 0, 1) := by decide +kernel
theorem dX1_slight_2 : decode cX1_slight 2 = .ok (.putfield 35, 3) := by decide +kernel
theorem dX1_slight_5 : decode cX1_slight 5 = .ok (.aload_n 0, 1) := by decide +kernel
theorem dX1_slight_6 : decode cX1_slight 6 = .ok (.iload_n 1, 1) := by decide +kernel
theorem dX1_slight_7 : decode cX1_slight 7 = .ok (.invokevirtual 72, 3) := by decide +kernel
theorem dX1_slight_10 : decode cX1_slight 10 = .ok (.ifCond .eq 11, 3) := by decide +kernel
theorem dX1_slight_13 : decode cX1_slight 13 = .ok (.aload_n 0, 1) := by decide +kernel
theorem dX1_slight_14 : decode cX1_slight 14 = .ok (.iload_n 2, 1) := by decide +kernel
theorem dX1_slight_15 : decode cX1_slight 15 = .ok (.invokevirtual 72, 3) := by decide +kernel
theorem dX1_slight_18 : decode cX1_slight 18 = .ok (.ifCond .ne 9, 3) := by decide +kernel
theorem dX1_slight_21 : decode cX1_slight 21 = .ok (.aload_n 0, 1) := by decide +kernel
theorem dX1_slight_22 : decode cX1_slight 22 = .ok (.iconst 1, 1) := by decide +kernel
theorem dX1_slight_23 : decode cX1_slight 23 = .ok (.invokevirtual 69, 3) := by decide +kernel
theorem dX1_slight_26 : decode cX1_slight 26 = .ok (.ireturn, 1) := by decide +kernel
theorem dX1_slight_27 : decode cX1_slight 27 = .ok (.iload_n 1, 1) := by decide +kernel
theorem dX1_slight_28 : decode cX1_slight 28 = .ok (.iload_n 2, 1) := by decide +kernel
theorem dX1_slight_29 : decode cX1_slight 29 = .ok (.if_icmp .eq 13, 3) := by decide +kernel
theorem dX1_slight_32 : decode cX1_slight 32 = .ok (.iload_n 3, 1) := by decide +kernel
theorem dX1_slight_33 : decode cX1_slight 33 = .ok (.iconst 1, 1) := by decide +kernel
theorem dX1_slight_34 : decode cX1_slight 34 = .ok (.bipush 20, 2) := by decide +kernel
theorem dX1_slight_36 : decode cX1_slight 36 = .ok (.invokestatic 42, 3) := by decide +kernel
theorem dX1_slight_39 : decode cX1_slight 39 = .ok (.ifCond .ne 9, 3) := by decide +kernel
theorem dX1_slight_42 : decode cX1_slight 42 = .ok (.aload_n 0, 1) := by decide +kernel
theorem dX1_slight_43 : decode cX1_slight 43 = .ok (.iconst 2, 1) := by decide +kernel
theorem dX1_slight_44 : decode cX1_slight 44 = .ok (.invokevirtual 69, 3) := by decide +kernel
theorem dX1_slight_47 : decode cX1_slight 47 = .ok (.ireturn, 1) := by decide +kernel
theorem dX1_slight_48 : decode cX1_slight 48 = .ok (.aload_n 0, 1) := by decide +kernel
theorem dX1_slight_49 : decode cX1_slight 49 = .ok (.getfield 46, 3) := by decide +kernel
theorem dX1_slight_52 : decode cX1_slight 52 = .ok (.bipush 20, 2) := by decide +kernel
theorem dX1_slight_54 : decode cX1_slight 54 = .ok (.if_icmp .ne 9, 3) := by decide +kernel
theorem dX1_slight_57 : decode cX1_slight 57 = .ok (.aload_n 0, 1) := by decide +kernel
theorem dX1_slight_58 : decode cX1_slight 58 = .ok (.iconst 3, 1) := by decide +kernel
theorem dX1_slight_59 : decode cX1_slight 59 = .ok (.invokevirtual 69, 3) := by decide +kernel
theorem dX1_slight_62 : decode cX1_slight 62 = .ok (.ireturn, 1) := by decide +kernel
theorem dX1_slight_63 : decode cX1_slight 63 = .ok (.aload_n 0, 1) := by decide +kernel
theorem dX1_slight_64 : decode cX1_slight 64 = .ok (.getfield 17, 3) := by decide +kernel
theorem dX1_slight_67 : decode cX1_slight 67 = .ok (.aload_n 0, 1) := by decide +kernel
theorem dX1_slight_68 : decode cX1_slight 68 = .ok (.getfield 46, 3) := by decide +kernel
theorem dX1_slight_71 : decode cX1_slight 71 = .ok (.iload_n 1, 1) := by decide +kernel
theorem dX1_slight_72 : decode cX1_slight 72 = .ok (.iastore, 1) := by decide +kernel
theorem dX1_slight_73 : decode cX1_slight 73 = .ok (.aload_n 0, 1) := by decide +kernel
theorem dX1_slight_74 : decode cX1_slight 74 = .ok (.getfield 20, 3) := by decide +kernel
theorem dX1_slight_77 : decode cX1_slight 77 = .ok (.aload_n 0, 1) := by decide +kernel
theorem dX1_slight_78 : decode cX1_slight 78 = .ok (.getfield 46, 3) := by decide +kernel
theorem dX1_slight_81 : decode cX1_slight 81 = .ok (.iload_n 2, 1) := by decide +kernel
theorem dX1_slight_82 : decode cX1_slight 82 = .ok (.iastore, 1) := by decide +kernel
theorem dX1_slight_83 : decode cX1_slight 83 = .ok (.aload_n 0, 1) := by decide +kernel
theorem dX1_slight_84 : decode cX1_slight 84 = .ok (.getfield 23, 3) := by decide +kernel
theorem dX1_slight_87 : decode cX1_slight 87 = .ok (.aload_n 0, 1) := by decide +kernel
theorem dX1_slight_88 : decode cX1_slight 88 = .ok (.getfield 46, 3) := by decide +kernel
theorem dX1_slight_91 : decode cX1_slight 91 = .ok (.iload_n 3, 1) := by decide +kernel
theorem dX1_slight_92 : decode cX1_slight 92 = .ok (.iastore, 1) := by decide +kernel
theorem dX1_slight_93 : decode cX1_slight 93 = .ok (.aload_n 0, 1) := by decide +kernel
theorem dX1_slight_94 : decode cX1_slight 94 = .ok (.dup, 1) := by decide +kernel
theorem dX1_slight_95 : decode cX1_slight 95 = .ok (.getfield 46, 3) := by decide +kernel
theorem dX1_slight_98 : decode cX1_slight 98 = .ok (.iconst 1, 1) := by decide +kernel
theorem dX1_slight_99 : decode cX1_slight 99 = .ok (.iadd, 1) := by decide +kernel
theorem dX1_slight_100 : decode cX1_slight 100 = .ok (.putfield 46, 3) := by decide +kernel
theorem dX1_slight_103 : decode cX1_slight 103 = .ok (.aload_n 0, 1) := by decide +kernel
theorem dX1_slight_104 : decode cX1_slight 104 = .ok (.getfield 46, 3) := by decide +kernel
theorem dX1_slight_107 : decode cX1_slight 107 = .ok (.iconst 1, 1) := by decide +kernel
theorem dX1_slight_108 : decode cX1_slight 108 = .ok (.isub, 1) := by decide +kernel
theorem dX1_slight_109 : decode cX1_slight 109 = .ok (.ireturn, 1) := by decide +kernel
set_option maxRecDepth 20000 in
theorem ggX1_mention_X1_isSlight : GoodIn wsX1_mention wsX1_isSlight := goodIn_r _ [7, 8, 9, 10, 6, 11, 30, 31, 32, 33, 34, 35, 36, 37, 38, 39, 40, 41, 42] (by decide +kernel) (by decide +kernel)
set_option maxRecDepth 20000 in
theorem gX1_mention_X1_isSlight : GoodIn wsX1_mention (wsV RX1 78 RX1 yX1_isSlight wsX1_isSlight) := goodIn_app (goodIn_of _ (by decide +kernel)) ggX1_mention_X1_isSlight
set_option maxRecDepth 20000 in
theorem ggX1_mention_X1_no : GoodIn wsX1_mention wsX1_no := goodIn_r _ [15, 1, 30, 31, 32, 33, 34, 35, 36, 37, 38, 39, 40, 41, 42] (by decide +kernel) (by decide +kernel)
set_option maxRecDepth 20000 in
theorem gX1_mention_X1_no : GoodIn wsX1_mention (wsV RX1 69 RX1 yX1_no wsX1_no) := goodIn_app (goodIn_of _ (by decide +kernel)) ggX1_mention_X1_no
set_option maxRecDepth 20000 in
theorem ggX1_mention_X1_isOpen : GoodIn wsX1_mention wsX1_isOpen := goodIn_r _ [19, 20, 30, 31, 32, 33, 34, 35, 36, 37, 38, 39, 40, 41, 42] (by decide +kernel) (by decide +kernel)
set_option maxRecDepth 20000 in
theorem gX1_mention_X1_isOpen : GoodIn wsX1_mention (wsV RX1 58 RX1 yX1_isOpen wsX1_isOpen) := goodIn_app (goodIn_of _ (by decide +kernel)) ggX1_mention_X1_isOpen
set_option maxRecDepth 20000 in
theorem ggX1_mention_X1_speak : GoodIn wsX1_mention wsX1_speak := goodIn_r _ [24, 2, 25, 26, 27, 28, 29, 30, 31, 32, 33, 34, 35, 36, 37, 38, 39, 40, 41, 42] (by decide +kernel) (by decide +kernel)
set_option maxRecDepth 20000 in
theorem gX1_mention_X1_speak : GoodIn wsX1_mention (wsV RX1 81 RX1 yX1_speak wsX1_speak) := goodIn_app (goodIn_of _ (by decide +kernel)) ggX1_mention_X1_speak
theorem dX1_mention_0 : decode cX1_mention 0 = .ok (.aload_n 0, 1) := by decide +kernel
theorem dX1_mention_1 : decode cX1_mention 1 = .ok (.iconst 0, 1) := by decide +kernel
theorem dX1_mention_2 : decode cX1_mention 2 = .ok (.putfield 35, 3) := by decide +kernel
theorem dX1_mention_5 : decode cX1_mention 5 = .ok (.aload_n 0, 1) := by decide +kernel
theorem dX1_mention_6 : decode cX1_mention 6 = .ok (.iload_n 1, 1) := by decide +kernel
theorem dX1_mention_7 : decode cX1_mention 7 = .ok (.invokevirtual 78, 3) := by decide +kernel
theorem dX1_mention_10 : decode cX1_mention 10 = .ok (.ifCond .ne 9, 3) := by decide +kernel
theorem dX1_mention_13 : decode cX1_mention 13 = .ok (.aload_n 0, 1) := by decide +kernel
theorem dX1_mention_14 : decode cX1_mention 14 = .ok (.iconst 1, 1) := by decide +kernel
theorem dX1_mention_15 : decode cX1_mention 15 = .ok (.invokevirtual 69, 3) := by decide +kernel
theorem dX1_mention_18 : decode cX1_mention 18 = .ok (.ireturn, 1) := by decide +kernel
theorem dX1_mention_19 : decode cX1_mention 19 = .ok (.aload_n 0, 1) := by decide +kernel
theorem dX1_mention_20 : decode cX1_mention 20 = .ok (.iload_n 1, 1) := by decide +kernel
theorem dX1_mention_21 : decode cX1_mention 21 = .ok (.invokevirtual 58, 3) := by decide +kernel
theorem dX1_mention_24 : decode cX1_mention 24 = .ok (.ifCond .ne 9, 3) := by decide +kernel
theorem dX1_mention_27 : decode cX1_mention 27 = .ok (.aload_n 0, 1) := by decide +kernel
theorem dX1_mention_28 : decode cX1_mention 28 = .ok (.iconst 2, 1) := by decide +kernel
theorem dX1_mention_29 : decode cX1_mention 29 = .ok (.invokevirtual 69, 3) := by decide +kernel
theorem dX1_mention_32 : decode cX1_mention 32 = .ok (.ireturn, 1) := by decide +kernel
theorem dX1_mention_33 : decode cX1_mention 33 = .ok (.aload_n 0, 1) := by decide +kernel
theorem dX1_mention_34 : decode cX1_mention 34 = .ok (.iload_n 1, 1) := by decide +kernel
theorem dX1_mention_35 : decode cX1_mention 35 = .ok (.invokevirtual 81, 3) := by decide +kernel
theorem dX1_mention_38 : decode cX1_mention 38 = .ok (.aload_n 0, 1) := by decide +kernel
theorem dX1_mention_39 : decode cX1_mention 39 = .ok (.getfield 23, 3) := by decide +kernel
theorem dX1_mention_42 : decode cX1_mention 42 = .ok (.iload_n 1, 1) := by decide +kernel
theorem dX1_mention_43 : decode cX1_mention 43 = .ok (.iaload, 1) := by decide +kernel
theorem dX1_mention_44 : decode cX1_mention 44 = .ok (.ireturn, 1) := by decide +kernel
set_option maxRecDepth 20000 in
theorem ggX1_apologize_X1_isSlight : GoodIn wsX1_apologize wsX1_isSlight := goodIn_r _ [8, 9, 10, 11, 7, 12, 48, 49, 50, 51, 52, 53, 54, 55, 56, 57, 58, 59, 60] (by decide +kernel) (by decide +kernel)
set_option maxRecDepth 20000 in
theorem gX1_apologize_X1_isSlight : GoodIn wsX1_apologize (wsV RX1 78 RX1 yX1_isSlight wsX1_isSlight) := goodIn_app (goodIn_of _ (by decide +kernel)) ggX1_apologize_X1_isSlight
set_option maxRecDepth 20000 in
theorem ggX1_apologize_X1_no : GoodIn wsX1_apologize wsX1_no := goodIn_r _ [16, 1, 48, 49, 50, 51, 52, 53, 54, 55, 56, 57, 58, 59, 60] (by decide +kernel) (by decide +kernel)
set_option maxRecDepth 20000 in
theorem gX1_apologize_X1_no : GoodIn wsX1_apologize (wsV RX1 69 RX1 yX1_no wsX1_no) := goodIn_app (goodIn_of _ (by decide +kernel)) ggX1_apologize_X1_no
set_option maxRecDepth 20000 in
theorem ggX1_apologize_X1_isIn : GoodIn wsX1_apologize wsX1_isIn := goodIn_r _ [12] (by decide +kernel) (by decide +kernel)
set_option maxRecDepth 20000 in
theorem gX1_apologize_X1_isIn : GoodIn wsX1_apologize (va_wsS RX1 42 yX1_isIn wsX1_isIn) := goodIn_app (goodIn_of _ (by decide +kernel)) ggX1_apologize_X1_isIn
set_option maxRecDepth 20000 in
theorem ggX1_apologize_X1_isOpen : GoodIn wsX1_apologize wsX1_isOpen := goodIn_r _ [20, 21, 48, 49, 50, 51, 52, 53, 54, 55, 56, 57, 58, 59, 60] (by decide +kernel) (by decide +kernel)
set_option maxRecDepth 20000 in
theorem gX1_apologize_X1_isOpen : GoodIn wsX1_apologize (wsV RX1 58 RX1 yX1_isOpen wsX1_isOpen) := goodIn_app (goodIn_of _ (by decide +kernel)) ggX1_apologize_X1_isOpen
set_option maxRecDepth 20000 in
theorem ggX1_apologize_X1_isScorned : GoodIn wsX1_apologize wsX1_isScorned := goodIn_r _ [25, 26, 27, 3, 28, 29, 30, 7, 31, 32, 33, 34, 48, 49, 50, 51, 52, 53, 54, 55, 56, 57, 58, 59, 60] (by decide +kernel) (by decide +kernel)
set_option maxRecDepth 20000 in
theorem gX1_apologize_X1_isScorned : GoodIn wsX1_apologize (wsV RX1 85 RX1 yX1_isScorned wsX1_isScorned) := goodIn_app (goodIn_of _ (by decide +kernel)) ggX1_apologize_X1_isScorned
set_option maxRecDepth 20000 in
theorem ggX1_apologize_X1_speak : GoodIn wsX1_apologize wsX1_speak := goodIn_r _ [38, 3, 39, 40, 41, 42, 43, 48, 49, 50, 51, 52, 53, 54, 55, 56, 57, 58, 59, 60] (by decide +kernel) (by decide +kernel)
set_option maxRecDepth 20000 in
theorem gX1_apologize_X1_speak : GoodIn wsX1_apologize (wsV RX1 81 RX1 yX1_speak wsX1_speak) := goodIn_app (goodIn_of _ (by decide +kernel)) ggX1_apologize_X1_speak
set_option maxRecDepth 20000 in
theorem ggX1_apologize_X1_witnesses : GoodIn wsX1_apologize wsX1_witnesses := goodIn_r _ [31, 32, 33, 34, 27, 48, 49, 50, 51, 52, 53, 54, 55, 56, 57, 58, 59, 60] (by decide +kernel) (by decide +kernel)
set_option maxRecDepth 20000 in
theorem gX1_apologize_X1_witnesses : GoodIn wsX1_apologize (wsV RX1 66 RX1 yX1_witnesses wsX1_witnesses) := goodIn_app (goodIn_of _ (by decide +kernel)) ggX1_apologize_X1_witnesses
set_option maxRecDepth 20000 in
theorem ggX1_apologize_X1_close : GoodIn wsX1_apologize wsX1_close := goodIn_r _ [47, 21, 3, 48, 49, 50, 51, 52, 53, 54, 55, 56, 57, 58, 59, 60] (by decide +kernel) (by decide +kernel)
set_option maxRecDepth 20000 in
theorem gX1_apologize_X1_close : GoodIn wsX1_apologize (wsV RX1 92 RX1 yX1_close wsX1_close) := goodIn_app (goodIn_of _ (by decide +kernel)) ggX1_apologize_X1_close
theorem dX1_apologize_0 : decode cX1_apologize 0 = .ok (.aload_n 0, 1) := by decide +kernel
theorem dX1_apologize_1 : decode cX1_apologize 1 = .ok (.iconst 0, 1) := by decide +kernel
theorem dX1_apologize_2 : decode cX1_apologize 2 = .ok (.putfield 35, 3) := by decide +kernel
theorem dX1_apologize_5 : decode cX1_apologize 5 = .ok (.aload_n 0, 1) := by decide +kernel
theorem dX1_apologize_6 : decode cX1_apologize 6 = .ok (.iload_n 1, 1) := by decide +kernel
theorem dX1_apologize_7 : decode cX1_apologize 7 = .ok (.invokevirtual 78, 3) := by decide +kernel
theorem dX1_apologize_10 : decode cX1_apologize 10 = .ok (.ifCond .ne 9, 3) := by decide +kernel
theorem dX1_apologize_13 : decode cX1_apologize 13 = .ok (.aload_n 0, 1) := by decide +kernel
theorem dX1_apologize_14 : decode cX1_apologize 14 = .ok (.iconst 1, 1) := by decide +kernel
theorem dX1_apologize_15 : decode cX1_apologize 15 = .ok (.invokevirtual 69, 3) := by decide +kernel
theorem dX1_apologize_18 : decode cX1_apologize 18 = .ok (.ireturn, 1) := by decide +kernel
theorem dX1_apologize_19 : decode cX1_apologize 19 = .ok (.iload_n 2, 1) := by decide +kernel
theorem dX1_apologize_20 : decode cX1_apologize 20 = .ok (.iconst 1, 1) := by decide +kernel
theorem dX1_apologize_21 : decode cX1_apologize 21 = .ok (.bipush 20, 2) := by decide +kernel
theorem dX1_apologize_23 : decode cX1_apologize 23 = .ok (.invokestatic 42, 3) := by decide +kernel
theorem dX1_apologize_26 : decode cX1_apologize 26 = .ok (.ifCond .ne 9, 3) := by decide +kernel
theorem dX1_apologize_29 : decode cX1_apologize 29 = .ok (.aload_n 0, 1) := by decide +kernel
theorem dX1_apologize_30 : decode cX1_apologize 30 = .ok (.iconst 2, 1) := by decide +kernel
theorem dX1_apologize_31 : decode cX1_apologize 31 = .ok (.invokevirtual 69, 3) := by decide +kernel
theorem dX1_apologize_34 : decode cX1_apologize 34 = .ok (.ireturn, 1) := by decide +kernel
theorem dX1_apologize_35 : decode cX1_apologize 35 = .ok (.aload_n 0, 1) := by decide +kernel
theorem dX1_apologize_36 : decode cX1_apologize 36 = .ok (.iload_n 1, 1) := by decide +kernel
theorem dX1_apologize_37 : decode cX1_apologize 37 = .ok (.invokevirtual 58, 3) := by decide +kernel
theorem dX1_apologize_40 : decode cX1_apologize 40 = .ok (.ifCond .ne 9, 3) := by decide +kernel
theorem dX1_apologize_43 : decode cX1_apologize 43 = .ok (.aload_n 0, 1) := by decide +kernel
theorem dX1_apologize_44 : decode cX1_apologize 44 = .ok (.iconst 3, 1) := by decide +kernel
theorem dX1_apologize_45 : decode cX1_apologize 45 = .ok (.invokevirtual 69, 3) := by decide +kernel
theorem dX1_apologize_48 : decode cX1_apologize 48 = .ok (.ireturn, 1) := by decide +kernel
theorem dX1_apologize_49 : decode cX1_apologize 49 = .ok (.aload_n 0, 1) := by decide +kernel
theorem dX1_apologize_50 : decode cX1_apologize 50 = .ok (.iload_n 1, 1) := by decide +kernel
theorem dX1_apologize_51 : decode cX1_apologize 51 = .ok (.iload_n 2, 1) := by decide +kernel
theorem dX1_apologize_52 : decode cX1_apologize 52 = .ok (.invokevirtual 85, 3) := by decide +kernel
theorem dX1_apologize_55 : decode cX1_apologize 55 = .ok (.ifCond .eq 25, 3) := by decide +kernel
theorem dX1_apologize_58 : decode cX1_apologize 58 = .ok (.aload_n 0, 1) := by decide +kernel
theorem dX1_apologize_59 : decode cX1_apologize 59 = .ok (.dup, 1) := by decide +kernel
theorem dX1_apologize_60 : decode cX1_apologize 60 = .ok (.getfield 89, 3) := by decide +kernel
theorem dX1_apologize_63 : decode cX1_apologize 63 = .ok (.iconst 1, 1) := by decide +kernel
theorem dX1_apologize_64 : decode cX1_apologize 64 = .ok (.iadd, 1) := by decide +kernel
theorem dX1_apologize_65 : decode cX1_apologize 65 = .ok (.putfield 89, 3) := by decide +kernel
theorem dX1_apologize_68 : decode cX1_apologize 68 = .ok (.aload_n 0, 1) := by decide +kernel
theorem dX1_apologize_69 : decode cX1_apologize 69 = .ok (.iload_n 1, 1) := by decide +kernel
theorem dX1_apologize_70 : decode cX1_apologize 70 = .ok (.invokevirtual 81, 3) := by decide +kernel
theorem dX1_apologize_73 : decode cX1_apologize 73 = .ok (.aload_n 0, 1) := by decide +kernel
theorem dX1_apologize_74 : decode cX1_apologize 74 = .ok (.getfield 23, 3) := by decide +kernel
theorem dX1_apologize_77 : decode cX1_apologize 77 = .ok (.iload_n 1, 1) := by decide +kernel
theorem dX1_apologize_78 : decode cX1_apologize 78 = .ok (.iaload, 1) := by decide +kernel
theorem dX1_apologize_79 : decode cX1_apologize 79 = .ok (.ireturn, 1) := by decide +kernel
theorem dX1_apologize_80 : decode cX1_apologize 80 = .ok (.aload_n 0, 1) := by decide +kernel
theorem dX1_apologize_81 : decode cX1_apologize 81 = .ok (.getfield 23, 3) := by decide +kernel
theorem dX1_apologize_84 : decode cX1_apologize 84 = .ok (.iload_n 1, 1) := by decide +kernel
theorem dX1_apologize_85 : decode cX1_apologize 85 = .ok (.dup2, 1) := by decide +kernel
theorem dX1_apologize_86 : decode cX1_apologize 86 = .ok (.iaload, 1) := by decide +kernel
theorem dX1_apologize_87 : decode cX1_apologize 87 = .ok (.iload_n 2, 1) := by decide +kernel
theorem dX1_apologize_88 : decode cX1_apologize 88 = .ok (.iconst 2, 1) := by decide +kernel
theorem dX1_apologize_89 : decode cX1_apologize 89 = .ok (.aload_n 0, 1) := by decide +kernel
theorem dX1_apologize_90 : decode cX1_apologize 90 = .ok (.iload_n 1, 1) := by decide +kernel
theorem dX1_apologize_91 : decode cX1_apologize 91 = .ok (.invokevirtual 66, 3) := by decide +kernel
theorem dX1_apologize_94 : decode cX1_apologize 94 = .ok (.imul, 1) := by decide +kernel
theorem dX1_apologize_95 : decode cX1_apologize 95 = .ok (.iadd, 1) := by decide +kernel
theorem dX1_apologize_96 : decode cX1_apologize 96 = .ok (.isub, 1) := by decide +kernel
theorem dX1_apologize_97 : decode cX1_apologize 97 = .ok (.iastore, 1) := by decide +kernel
theorem dX1_apologize_98 : decode cX1_apologize 98 = .ok (.aload_n 0, 1) := by decide +kernel
theorem dX1_apologize_99 : decode cX1_apologize 99 = .ok (.getfield 23, 3) := by decide +kernel
theorem dX1_apologize_102 : decode cX1_apologize 102 = .ok (.iload_n 1, 1) := by decide +kernel
theorem dX1_apologize_103 : decode cX1_apologize 103 = .ok (.iaload, 1) := by decide +kernel
theorem dX1_apologize_104 : decode cX1_apologize 104 = .ok (.ifCond .gt 9, 3) := by decide +kernel
theorem dX1_apologize_107 : decode cX1_apologize 107 = .ok (.aload_n 0, 1) := by decide +kernel
theorem dX1_apologize_108 : decode cX1_apologize 108 = .ok (.iload_n 1, 1) := by decide +kernel
theorem dX1_apologize_109 : decode cX1_apologize 109 = .ok (.iconst 1, 1) := by decide +kernel
theorem dX1_apologize_110 : decode cX1_apologize 110 = .ok (.invokevirtual 92, 3) := by decide +kernel
theorem dX1_apologize_113 : decode cX1_apologize 113 = .ok (.aload_n 0, 1) := by decide +kernel
theorem dX1_apologize_114 : decode cX1_apologize 114 = .ok (.getfield 23, 3) := by decide +kernel
theorem dX1_apologize_117 : decode cX1_apologize 117 = .ok (.iload_n 1, 1) := by decide +kernel
theorem dX1_apologize_118 : decode cX1_apologize 118 = .ok (.iaload, 1) := by decide +kernel
theorem dX1_apologize_119 : decode cX1_apologize 119 = .ok (.ireturn, 1) := by decide +kernel
set_option maxRecDepth 20000 in
theorem ggX1_areOpposite_X1_isOpen : GoodIn wsX1_areOpposite wsX1_isOpen := goodIn_r _ [7, 8, 9, 10, 11, 12, 13, 14, 15, 16, 17, 18, 19, 20, 21] (by decide +kernel) (by decide +kernel)
set_option maxRecDepth 20000 in
theorem gX1_areOpposite_X1_isOpen : GoodIn wsX1_areOpposite (wsV RX1 58 RX1 yX1_isOpen wsX1_isOpen) := goodIn_app (goodIn_of _ (by decide +kernel)) ggX1_areOpposite_X1_isOpen
theorem dX1_areOpposite_0 : decode cX1_areOpposite 0 = .ok (.aload_n 0, 1) := by decide +kernel
theorem dX1_areOpposite_1 : decode cX1_areOpposite 1 = .ok (.iload_n 1, 1) := by decide +kernel
theorem dX1_areOpposite_2 : decode cX1_areOpposite 2 = .ok (.invokevirtual 58, 3) := by decide +kernel
theorem dX1_areOpposite_5 : decode cX1_areOpposite 5 = .ok (.ifCond .eq 45, 3) := by decide +kernel
theorem dX1_areOpposite_8 : decode cX1_areOpposite 8 = .ok (.aload_n 0, 1) := by decide +kernel
theorem dX1_areOpposite_9 : decode cX1_areOpposite 9 = .ok (.iload_n 2, 1) := by decide +kernel
theorem dX1_areOpposite_10 : decode cX1_areOpposite 10 = .ok (.invokevirtual 58, 3) := by decide +kernel
theorem dX1_areOpposite_13 : decode cX1_areOpposite 13 = .ok (.ifCond .eq 37, 3) := by decide +kernel
theorem dX1_areOpposite_16 : decode cX1_areOpposite 16 = .ok (.aload_n 0, 1) := by decide +kernel
theorem dX1_areOpposite_17 : decode cX1_areOpposite 17 = .ok (.getfield 17, 3) := by decide +kernel
theorem dX1_areOpposite_20 : decode cX1_areOpposite 20 = .ok (.iload_n 1, 1) := by decide +kernel
theorem dX1_areOpposite_21 : decode cX1_areOpposite 21 = .ok (.iaload, 1) := by decide +kernel
theorem dX1_areOpposite_22 : decode cX1_areOpposite 22 = .ok (.aload_n 0, 1) := by decide +kernel
theorem dX1_areOpposite_23 : decode cX1_areOpposite 23 = .ok (.getfield 20, 3) := by decide +kernel
theorem dX1_areOpposite_26 : decode cX1_areOpposite 26 = .ok (.iload_n 2, 1) := by decide +kernel
theorem dX1_areOpposite_27 : decode cX1_areOpposite 27 = .ok (.iaload, 1) := by decide +kernel
theorem dX1_areOpposite_28 : decode cX1_areOpposite 28 = .ok (.if_icmp .ne 22, 3) := by decide +kernel
theorem dX1_areOpposite_31 : decode cX1_areOpposite 31 = .ok (.aload_n 0, 1) := by decide +kernel
theorem dX1_areOpposite_32 : decode cX1_areOpposite 32 = .ok (.getfield 17, 3) := by decide +kernel
theorem dX1_areOpposite_35 : decode cX1_areOpposite 35 = .ok (.iload_n 2, 1) := by decide +kernel
theorem dX1_areOpposite_36 : decode cX1_areOpposite 36 = .ok (.iaload, 1) := by decide +kernel
theorem dX1_areOpposite_37 : decode cX1_areOpposite 37 = .ok (.aload_n 0, 1) := by decide +kernel
theorem dX1_areOpposite_38 : decode cX1_areOpposite 38 = .ok (.getfield 20, 3) := by decide +kernel
theorem dX1_areOpposite_41 : decode cX1_areOpposite 41 = .ok (.iload_n 1, 1) := by decide +kernel
theorem dX1_areOpposite_42 : decode cX1_areOpposite 42 = .ok (.iaload, 1) := by decide +kernel
theorem dX1_areOpposite_43 : decode cX1_areOpposite 43 = .ok (.if_icmp .ne 7, 3) := by decide +kernel
theorem dX1_areOpposite_46 : decode cX1_areOpposite 46 = .ok (.iconst 1, 1) := by decide +kernel
theorem dX1_areOpposite_47 : decode cX1_areOpposite 47 = .ok (.goto 4, 3) := by decide +kernel
theorem dX1_areOpposite_50 : decode cX1_areOpposite 50 = .ok (.iconst 0, 1) := by decide +kernel
theorem dX1_areOpposite_51 : decode cX1_areOpposite 51 = .ok (.ireturn, 1) := by decide +kernel
set_option maxRecDepth 20000 in
theorem ggX1_setOff_X1_isSlight : GoodIn wsX1_setOff wsX1_isSlight := goodIn_r _ [11, 12, 13, 14, 10, 15, 35, 36, 37, 38, 39, 40, 41, 42, 43, 44, 45, 46, 47] (by decide +kernel) (by decide +kernel)
set_option maxRecDepth 20000 in
theorem gX1_setOff_X1_isSlight : GoodIn wsX1_setOff (wsV RX1 78 RX1 yX1_isSlight wsX1_isSlight) := goodIn_app (goodIn_of _ (by decide +kernel)) ggX1_setOff_X1_isSlight
set_option maxRecDepth 20000 in
theorem ggX1_setOff_X1_no : GoodIn wsX1_setOff wsX1_no := goodIn_r _ [19, 1, 35, 36, 37, 38, 39, 40, 41, 42, 43, 44, 45, 46, 47] (by decide +kernel) (by decide +kernel)
set_option maxRecDepth 20000 in
theorem gX1_setOff_X1_no : GoodIn wsX1_setOff (wsV RX1 69 RX1 yX1_no wsX1_no) := goodIn_app (goodIn_of _ (by decide +kernel)) ggX1_setOff_X1_no
set_option maxRecDepth 20000 in
theorem ggX1_setOff_X1_areOpposite : GoodIn wsX1_setOff wsX1_areOpposite := goodIn_r _ [23, 24, 25, 26, 27, 28, 10, 29, 30, 35, 36, 37, 38, 39, 40, 41, 42, 43, 44, 45, 46, 47] (by decide +kernel) (by decide +kernel)
set_option maxRecDepth 20000 in
theorem gX1_setOff_X1_areOpposite : GoodIn wsX1_setOff (wsV RX1 96 RX1 yX1_areOpposite wsX1_areOpposite) := goodIn_app (goodIn_of _ (by decide +kernel)) ggX1_setOff_X1_areOpposite
set_option maxRecDepth 20000 in
theorem ggX1_setOff_X1_close : GoodIn wsX1_setOff wsX1_close := goodIn_r _ [34, 30, 2, 35, 36, 37, 38, 39, 40, 41, 42, 43, 44, 45, 46, 47] (by decide +kernel) (by decide +kernel)
set_option maxRecDepth 20000 in
theorem gX1_setOff_X1_close : GoodIn wsX1_setOff (wsV RX1 92 RX1 yX1_close wsX1_close) := goodIn_app (goodIn_of _ (by decide +kernel)) ggX1_setOff_X1_close
theorem dX1_setOff_0 : decode cX1_setOff 0 = .ok (.aload_n 0, 1) := by decide +kernel
theorem dX1_setOff_1 : decode cX1_setOff 1 = .ok (.iconst 0, 1) := by decide +kernel
theorem dX1_setOff_2 : decode cX1_setOff 2 = .ok (.putfield 35, 3) := by decide +kernel
theorem dX1_setOff_5 : decode cX1_setOff 5 = .ok (.aload_n 0, 1) := by decide +kernel
theorem dX1_setOff_6 : decode cX1_setOff 6 = .ok (.iload_n 1, 1) := by decide +kernel
theorem dX1_setOff_7 : decode cX1_setOff 7 = .ok (.invokevirtual 78, 3) := by decide +kernel
theorem dX1_setOff_10 : decode cX1_setOff 10 = .ok (.ifCond .eq 11, 3) := by decide +kernel
theorem dX1_setOff_13 : decode cX1_setOff 13 = .ok (.aload_n 0, 1) := by decide +kernel
theorem dX1_setOff_14 : decode cX1_setOff 14 = .ok (.iload_n 2, 1) := by decide +kernel
theorem dX1_setOff_15 : decode cX1_setOff 15 = .ok (.invokevirtual 78, 3) := by decide +kernel
theorem dX1_setOff_18 : decode cX1_setOff 18 = .ok (.ifCond .ne 9, 3) := by decide +kernel
theorem dX1_setOff_21 : decode cX1_setOff 21 = .ok (.aload_n 0, 1) := by decide +kernel
theorem dX1_setOff_22 : decode cX1_setOff 22 = .ok (.iconst 1, 1) := by decide +kernel
theorem dX1_setOff_23 : decode cX1_setOff 23 = .ok (.invokevirtual 69, 3) := by decide +kernel
theorem dX1_setOff_26 : decode cX1_setOff 26 = .ok (.ireturn, 1) := by decide +kernel
theorem dX1_setOff_27 : decode cX1_setOff 27 = .ok (.aload_n 0, 1) := by decide +kernel
theorem dX1_setOff_28 : decode cX1_setOff 28 = .ok (.iload_n 1, 1) := by decide +kernel
theorem dX1_setOff_29 : decode cX1_setOff 29 = .ok (.iload_n 2, 1) := by decide +kernel
theorem dX1_setOff_30 : decode cX1_setOff 30 = .ok (.invokevirtual 96, 3) := by decide +kernel
theorem dX1_setOff_33 : decode cX1_setOff 33 = .ok (.ifCond .ne 9, 3) := by decide +kernel
theorem dX1_setOff_36 : decode cX1_setOff 36 = .ok (.aload_n 0, 1) := by decide +kernel
theorem dX1_setOff_37 : decode cX1_setOff 37 = .ok (.iconst 2, 1) := by decide +kernel
theorem dX1_setOff_38 : decode cX1_setOff 38 = .ok (.invokevirtual 69, 3) := by decide +kernel
theorem dX1_setOff_41 : decode cX1_setOff 41 = .ok (.ireturn, 1) := by decide +kernel
theorem dX1_setOff_42 : decode cX1_setOff 42 = .ok (.aload_n 0, 1) := by decide +kernel
theorem dX1_setOff_43 : decode cX1_setOff 43 = .ok (.getfield 23, 3) := by decide +kernel
theorem dX1_setOff_46 : decode cX1_setOff 46 = .ok (.iload_n 1, 1) := by decide +kernel
theorem dX1_setOff_47 : decode cX1_setOff 47 = .ok (.iaload, 1) := by decide +kernel
theorem dX1_setOff_48 : decode cX1_setOff 48 = .ok (.aload_n 0, 1) := by decide +kernel
theorem dX1_setOff_49 : decode cX1_setOff 49 = .ok (.getfield 23, 3) := by decide +kernel
theorem dX1_setOff_52 : decode cX1_setOff 52 = .ok (.iload_n 2, 1) := by decide +kernel
theorem dX1_setOff_53 : decode cX1_setOff 53 = .ok (.iaload, 1) := by decide +kernel
theorem dX1_setOff_54 : decode cX1_setOff 54 = .ok (.invokestatic 49, 3) := by decide +kernel
theorem dX1_setOff_57 : decode cX1_setOff 57 = .ok (.istore_n 3, 1) := by decide +kernel
theorem dX1_setOff_58 : decode cX1_setOff 58 = .ok (.aload_n 0, 1) := by decide +kernel
theorem dX1_setOff_59 : decode cX1_setOff 59 = .ok (.getfield 23, 3) := by decide +kernel
theorem dX1_setOff_62 : decode cX1_setOff 62 = .ok (.iload_n 1, 1) := by decide +kernel
theorem dX1_setOff_63 : decode cX1_setOff 63 = .ok (.dup2, 1) := by decide +kernel
theorem dX1_setOff_64 : decode cX1_setOff 64 = .ok (.iaload, 1) := by decide +kernel
theorem dX1_setOff_65 : decode cX1_setOff 65 = .ok (.iload_n 3, 1) := by decide +kernel
theorem dX1_setOff_66 : decode cX1_setOff 66 = .ok (.isub, 1) := by decide +kernel
theorem dX1_setOff_67 : decode cX1_setOff 67 = .ok (.iastore, 1) := by decide +kernel
theorem dX1_setOff_68 : decode cX1_setOff 68 = .ok (.aload_n 0, 1) := by decide +kernel
theorem dX1_setOff_69 : decode cX1_setOff 69 = .ok (.getfield 23, 3) := by decide +kernel
theorem dX1_setOff_72 : decode cX1_setOff 72 = .ok (.iload_n 2, 1) := by decide +kernel
theorem dX1_setOff_73 : decode cX1_setOff 73 = .ok (.dup2, 1) := by decide +kernel
theorem dX1_setOff_74 : decode cX1_setOff 74 = .ok (.iaload, 1) := by decide +kernel
theorem dX1_setOff_75 : decode cX1_setOff 75 = .ok (.iload_n 3, 1) := by decide +kernel
theorem dX1_setOff_76 : decode cX1_setOff 76 = .ok (.isub, 1) := by decide +kernel
theorem dX1_setOff_77 : decode cX1_setOff 77 = .ok (.iastore, 1) := by decide +kernel
theorem dX1_setOff_78 : decode cX1_setOff 78 = .ok (.aload_n 0, 1) := by decide +kernel
theorem dX1_setOff_79 : decode cX1_setOff 79 = .ok (.getfield 23, 3) := by decide +kernel
theorem dX1_setOff_82 : decode cX1_setOff 82 = .ok (.iload_n 1, 1) := by decide +kernel
theorem dX1_setOff_83 : decode cX1_setOff 83 = .ok (.iaload, 1) := by decide +kernel
theorem dX1_setOff_84 : decode cX1_setOff 84 = .ok (.ifCond .ne 9, 3) := by decide +kernel
theorem dX1_setOff_87 : decode cX1_setOff 87 = .ok (.aload_n 0, 1) := by decide +kernel
theorem dX1_setOff_88 : decode cX1_setOff 88 = .ok (.iload_n 1, 1) := by decide +kernel
theorem dX1_setOff_89 : decode cX1_setOff 89 = .ok (.iconst 3, 1) := by decide +kernel
theorem dX1_setOff_90 : decode cX1_setOff 90 = .ok (.invokevirtual 92, 3) := by decide +kernel
theorem dX1_setOff_93 : decode cX1_setOff 93 = .ok (.aload_n 0, 1) := by decide +kernel
theorem dX1_setOff_94 : decode cX1_setOff 94 = .ok (.getfield 23, 3) := by decide +kernel
theorem dX1_setOff_97 : decode cX1_setOff 97 = .ok (.iload_n 2, 1) := by decide +kernel
theorem dX1_setOff_98 : decode cX1_setOff 98 = .ok (.iaload, 1) := by decide +kernel
theorem dX1_setOff_99 : decode cX1_setOff 99 = .ok (.ifCond .ne 9, 3) := by decide +kernel
theorem dX1_setOff_102 : decode cX1_setOff 102 = .ok (.aload_n 0, 1) := by decide +kernel
theorem dX1_setOff_103 : decode cX1_setOff 103 = .ok (.iload_n 2, 1) := by decide +kernel
theorem dX1_setOff_104 : decode cX1_setOff 104 = .ok (.iconst 3, 1) := by decide +kernel
theorem dX1_setOff_105 : decode cX1_setOff 105 = .ok (.invokevirtual 92, 3) := by decide +kernel
theorem dX1_setOff_108 : decode cX1_setOff 108 = .ok (.iload_n 3, 1) := by decide +kernel
theorem dX1_setOff_109 : decode cX1_setOff 109 = .ok (.ireturn, 1) := by decide +kernel
set_option maxRecDepth 20000 in
theorem ggX1_setPride_X1_isPerson : GoodIn wsX1_setPride wsX1_isPerson := goodIn_r _ [7, 8, 9, 10, 6, 11, 16, 17, 18, 19, 20, 21, 22, 23, 24, 25, 26, 27, 28] (by decide +kernel) (by decide +kernel)
set_option maxRecDepth 20000 in
theorem gX1_setPride_X1_isPerson : GoodIn wsX1_setPride (wsV RX1 72 RX1 yX1_isPerson wsX1_isPerson) := goodIn_app (goodIn_of _ (by decide +kernel)) ggX1_setPride_X1_isPerson
set_option maxRecDepth 20000 in
theorem ggX1_setPride_X1_no : GoodIn wsX1_setPride wsX1_no := goodIn_r _ [15, 1, 16, 17, 18, 19, 20, 21, 22, 23, 24, 25, 26, 27, 28] (by decide +kernel) (by decide +kernel)
set_option maxRecDepth 20000 in
theorem gX1_setPride_X1_no : GoodIn wsX1_setPride (wsV RX1 69 RX1 yX1_no wsX1_no) := goodIn_app (goodIn_of _ (by decide +kernel)) ggX1_setPride_X1_no
set_option maxRecDepth 20000 in
theorem ggX1_setPride_X1_isIn : GoodIn wsX1_setPride wsX1_isIn := goodIn_r _ [11] (by decide +kernel) (by decide +kernel)
set_option maxRecDepth 20000 in
theorem gX1_setPride_X1_isIn : GoodIn wsX1_setPride (va_wsS RX1 42 yX1_isIn wsX1_isIn) := goodIn_app (goodIn_of _ (by decide +kernel)) ggX1_setPride_X1_isIn
theorem dX1_setPride_0 : decode cX1_setPride 0 = .ok (.aload_n 0, 1) := by decide +kernel
theorem dX1_setPride_1 : decode cX1_setPride 1 = .ok (.iconst 0, 1) := by decide +kernel
theorem dX1_setPride_2 : decode cX1_setPride 2 = .ok (.putfield 35, 3) := by decide +kernel
theorem dX1_setPride_5 : decode cX1_setPride 5 = .ok (.aload_n 0, 1) := by decide +kernel
theorem dX1_setPride_6 : decode cX1_setPride 6 = .ok (.iload_n 1, 1) := by decide +kernel
theorem dX1_setPride_7 : decode cX1_setPride 7 = .ok (.invokevirtual 72, 3) := by decide +kernel
theorem dX1_setPride_10 : decode cX1_setPride 10 = .ok (.ifCond .ne 9, 3) := by decide +kernel
theorem dX1_setPride_13 : decode cX1_setPride 13 = .ok (.aload_n 0, 1) := by decide +kernel
theorem dX1_setPride_14 : decode cX1_setPride 14 = .ok (.iconst 1, 1) := by decide +kernel
theorem dX1_setPride_15 : decode cX1_setPride 15 = .ok (.invokevirtual 69, 3) := by decide +kernel
theorem dX1_setPride_18 : decode cX1_setPride 18 = .ok (.ireturn, 1) := by decide +kernel
theorem dX1_setPride_19 : decode cX1_setPride 19 = .ok (.iload_n 2, 1) := by decide +kernel
theorem dX1_setPride_20 : decode cX1_setPride 20 = .ok (.iconst 0, 1) := by decide +kernel
theorem dX1_setPride_21 : decode cX1_setPride 21 = .ok (.bipush 9, 2) := by decide +kernel
theorem dX1_setPride_23 : decode cX1_setPride 23 = .ok (.invokestatic 42, 3) := by decide +kernel
theorem dX1_setPride_26 : decode cX1_setPride 26 = .ok (.ifCond .ne 9, 3) := by decide +kernel
theorem dX1_setPride_29 : decode cX1_setPride 29 = .ok (.aload_n 0, 1) := by decide +kernel
theorem dX1_setPride_30 : decode cX1_setPride 30 = .ok (.iconst 2, 1) := by decide +kernel
theorem dX1_setPride_31 : decode cX1_setPride 31 = .ok (.invokevirtual 69, 3) := by decide +kernel
theorem dX1_setPride_34 : decode cX1_setPride 34 = .ok (.ireturn, 1) := by decide +kernel
theorem dX1_setPride_35 : decode cX1_setPride 35 = .ok (.aload_n 0, 1) := by decide +kernel
theorem dX1_setPride_36 : decode cX1_setPride 36 = .ok (.getfield 9, 3) := by decide +kernel
theorem dX1_setPride_39 : decode cX1_setPride 39 = .ok (.iload_n 1, 1) := by decide +kernel
theorem dX1_setPride_40 : decode cX1_setPride 40 = .ok (.iaload, 1) := by decide +kernel
theorem dX1_setPride_41 : decode cX1_setPride 41 = .ok (.istore_n 3, 1) := by decide +kernel
theorem dX1_setPride_42 : decode cX1_setPride 42 = .ok (.aload_n 0, 1) := by decide +kernel
theorem dX1_setPride_43 : decode cX1_setPride 43 = .ok (.getfield 9, 3) := by decide +kernel
theorem dX1_setPride_46 : decode cX1_setPride 46 = .ok (.iload_n 1, 1) := by decide +kernel
theorem dX1_setPride_47 : decode cX1_setPride 47 = .ok (.iload_n 2, 1) := by decide +kernel
theorem dX1_setPride_48 : decode cX1_setPride 48 = .ok (.iastore, 1) := by decide +kernel
theorem dX1_setPride_49 : decode cX1_setPride 49 = .ok (.iload_n 3, 1) := by decide +kernel
theorem dX1_setPride_50 : decode cX1_setPride 50 = .ok (.ireturn, 1) := by decide +kernel
set_option maxRecDepth 20000 in
theorem ggX1_pass_X1_isIn : GoodIn wsX1_pass wsX1_isIn := goodIn_r _ [14] (by decide +kernel) (by decide +kernel)
set_option maxRecDepth 20000 in
theorem gX1_pass_X1_isIn : GoodIn wsX1_pass (va_wsS RX1 42 yX1_isIn wsX1_isIn) := goodIn_app (goodIn_of _ (by decide +kernel)) ggX1_pass_X1_isIn
set_option maxRecDepth 20000 in
theorem ggX1_pass_X1_no : GoodIn wsX1_pass wsX1_no := goodIn_r _ [18, 1, 38, 39, 40, 41, 42, 43, 44, 45, 46, 47, 48, 49, 50] (by decide +kernel) (by decide +kernel)
set_option maxRecDepth 20000 in
theorem gX1_pass_X1_no : GoodIn wsX1_pass (wsV RX1 69 RX1 yX1_no wsX1_no) := goodIn_app (goodIn_of _ (by decide +kernel)) ggX1_pass_X1_no
set_option maxRecDepth 20000 in
theorem ggX1_pass_X1_isOpen : GoodIn wsX1_pass wsX1_isOpen := goodIn_r _ [22, 23, 38, 39, 40, 41, 42, 43, 44, 45, 46, 47, 48, 49, 50] (by decide +kernel) (by decide +kernel)
set_option maxRecDepth 20000 in
theorem gX1_pass_X1_isOpen : GoodIn wsX1_pass (wsV RX1 58 RX1 yX1_isOpen wsX1_isOpen) := goodIn_app (goodIn_of _ (by decide +kernel)) ggX1_pass_X1_isOpen
set_option maxRecDepth 20000 in
theorem ggX1_pass_X1_later : GoodIn wsX1_pass wsX1_later := goodIn_r _ [27, 3, 9, 8, 19, 20, 21, 13, 22, 23, 28, 29, 30, 31, 32, 6, 33, 4, 5, 7, 38, 39, 40, 41, 42, 43, 44, 45, 46, 47, 48, 49, 50] (by decide +kernel) (by decide +kernel)
set_option maxRecDepth 20000 in
theorem gX1_pass_X1_later : GoodIn wsX1_pass (wsV RX1 99 RX1 yX1_later wsX1_later) := goodIn_app (goodIn_of _ (by decide +kernel)) ggX1_pass_X1_later
set_option maxRecDepth 20000 in
theorem ggX1_pass_X1_close : GoodIn wsX1_pass wsX1_close := goodIn_r _ [37, 23, 9, 38, 39, 40, 41, 42, 43, 44, 45, 46, 47, 48, 49, 50] (by decide +kernel) (by decide +kernel)
set_option maxRecDepth 20000 in
theorem gX1_pass_X1_close : GoodIn wsX1_pass (wsV RX1 92 RX1 yX1_close wsX1_close) := goodIn_app (goodIn_of _ (by decide +kernel)) ggX1_pass_X1_close
theorem dX1_pass_0 : decode cX1_pass 0 = .ok (.aload_n 0, 1) := by decide +kernel
theorem dX1_pass_1 : decode cX1_pass 1 = .ok (.iconst 0, 1) := by decide +kernel
theorem dX1_pass_2 : decode cX1_pass 2 = .ok (.putfield 35, 3) := by decide +kernel
theorem dX1_pass_5 : decode cX1_pass 5 = .ok (.iload_n 1, 1) := by decide +kernel
theorem dX1_pass_6 : decode cX1_pass 6 = .ok (.iconst 1, 1) := by decide +kernel
theorem dX1_pass_7 : decode cX1_pass 7 = .ok (.bipush 60, 2) := by decide +kernel
theorem dX1_pass_9 : decode cX1_pass 9 = .ok (.invokestatic 42, 3) := by decide +kernel
theorem dX1_pass_12 : decode cX1_pass 12 = .ok (.ifCond .ne 9, 3) := by decide +kernel
theorem dX1_pass_15 : decode cX1_pass 15 = .ok (.aload_n 0, 1) := by decide +kernel
theorem dX1_pass_16 : decode cX1_pass 16 = .ok (.iconst 1, 1) := by decide +kernel
theorem dX1_pass_17 : decode cX1_pass 17 = .ok (.invokevirtual 69, 3) := by decide +kernel
theorem dX1_pass_20 : decode cX1_pass 20 = .ok (.ireturn, 1) := by decide +kernel
theorem dX1_pass_21 : decode cX1_pass 21 = .ok (.iconst 0, 1) := by decide +kernel
theorem dX1_pass_22 : decode cX1_pass 22 = .ok (.istore_n 2, 1) := by decide +kernel
theorem dX1_pass_23 : decode cX1_pass 23 = .ok (.iconst 0, 1) := by decide +kernel
theorem dX1_pass_24 : decode cX1_pass 24 = .ok (.istore_n 3, 1) := by decide +kernel
theorem dX1_pass_25 : decode cX1_pass 25 = .ok (.iload_n 3, 1) := by decide +kernel
theorem dX1_pass_26 : decode cX1_pass 26 = .ok (.aload_n 0, 1) := by decide +kernel
theorem dX1_pass_27 : decode cX1_pass 27 = .ok (.getfield 46, 3) := by decide +kernel
theorem dX1_pass_30 : decode cX1_pass 30 = .ok (.if_icmp .ge 97, 3) := by decide +kernel
theorem dX1_pass_33 : decode cX1_pass 33 = .ok (.aload_n 0, 1) := by decide +kernel
theorem dX1_pass_34 : decode cX1_pass 34 = .ok (.iload_n 3, 1) := by decide +kernel
theorem dX1_pass_35 : decode cX1_pass 35 = .ok (.invokevirtual 58, 3) := by decide +kernel
theorem dX1_pass_38 : decode cX1_pass 38 = .ok (.ifCond .ne 6, 3) := by decide +kernel
theorem dX1_pass_41 : decode cX1_pass 41 = .ok (.goto 80, 3) := by decide +kernel
theorem dX1_pass_44 : decode cX1_pass 44 = .ok (.iload_n 1, 1) := by decide +kernel
theorem dX1_pass_45 : decode cX1_pass 45 = .ok (.bipush 30, 2) := by decide +kernel
theorem dX1_pass_47 : decode cX1_pass 47 = .ok (.aload_n 0, 1) := by decide +kernel
theorem dX1_pass_48 : decode cX1_pass 48 = .ok (.getfield 32, 3) := by decide +kernel
theorem dX1_pass_51 : decode cX1_pass 51 = .ok (.iload_n 3, 1) := by decide +kernel
theorem dX1_pass_52 : decode cX1_pass 52 = .ok (.iaload, 1) := by decide +kernel
theorem dX1_pass_53 : decode cX1_pass 53 = .ok (.isub, 1) := by decide +kernel
theorem dX1_pass_54 : decode cX1_pass 54 = .ok (.invokestatic 49, 3) := by decide +kernel
theorem dX1_pass_57 : decode cX1_pass 57 = .ok (.istore 4, 2) := by decide +kernel
theorem dX1_pass_59 : decode cX1_pass 59 = .ok (.aload_n 0, 1) := by decide +kernel
theorem dX1_pass_60 : decode cX1_pass 60 = .ok (.iload_n 3, 1) := by decide +kernel
theorem dX1_pass_61 : decode cX1_pass 61 = .ok (.iload 4, 2) := by decide +kernel
theorem dX1_pass_63 : decode cX1_pass 63 = .ok (.invokevirtual 99, 3) := by decide +kernel
theorem dX1_pass_66 : decode cX1_pass 66 = .ok (.istore 5, 2) := by decide +kernel
theorem dX1_pass_68 : decode cX1_pass 68 = .ok (.aload_n 0, 1) := by decide +kernel
theorem dX1_pass_69 : decode cX1_pass 69 = .ok (.getfield 29, 3) := by decide +kernel
theorem dX1_pass_72 : decode cX1_pass 72 = .ok (.iload_n 3, 1) := by decide +kernel
theorem dX1_pass_73 : decode cX1_pass 73 = .ok (.dup2, 1) := by decide +kernel
theorem dX1_pass_74 : decode cX1_pass 74 = .ok (.iaload, 1) := by decide +kernel
theorem dX1_pass_75 : decode cX1_pass 75 = .ok (.iload 4, 2) := by decide +kernel
theorem dX1_pass_77 : decode cX1_pass 77 = .ok (.iadd, 1) := by decide +kernel
theorem dX1_pass_78 : decode cX1_pass 78 = .ok (.iastore, 1) := by decide +kernel
theorem dX1_pass_79 : decode cX1_pass 79 = .ok (.aload_n 0, 1) := by decide +kernel
theorem dX1_pass_80 : decode cX1_pass 80 = .ok (.getfield 32, 3) := by decide +kernel
theorem dX1_pass_83 : decode cX1_pass 83 = .ok (.iload_n 3, 1) := by decide +kernel
theorem dX1_pass_84 : decode cX1_pass 84 = .ok (.dup2, 1) := by decide +kernel
theorem dX1_pass_85 : decode cX1_pass 85 = .ok (.iaload, 1) := by decide +kernel
theorem dX1_pass_86 : decode cX1_pass 86 = .ok (.iload 4, 2) := by decide +kernel
theorem dX1_pass_88 : decode cX1_pass 88 = .ok (.iadd, 1) := by decide +kernel
theorem dX1_pass_89 : decode cX1_pass 89 = .ok (.iastore, 1) := by decide +kernel
theorem dX1_pass_90 : decode cX1_pass 90 = .ok (.aload_n 0, 1) := by decide +kernel
theorem dX1_pass_91 : decode cX1_pass 91 = .ok (.getfield 23, 3) := by decide +kernel
theorem dX1_pass_94 : decode cX1_pass 94 = .ok (.iload_n 3, 1) := by decide +kernel
theorem dX1_pass_95 : decode cX1_pass 95 = .ok (.iload 5, 2) := by decide +kernel
theorem dX1_pass_97 : decode cX1_pass 97 = .ok (.iastore, 1) := by decide +kernel
theorem dX1_pass_98 : decode cX1_pass 98 = .ok (.aload_n 0, 1) := by decide +kernel
theorem dX1_pass_99 : decode cX1_pass 99 = .ok (.getfield 32, 3) := by decide +kernel
theorem dX1_pass_102 : decode cX1_pass 102 = .ok (.iload_n 3, 1) := by decide +kernel
theorem dX1_pass_103 : decode cX1_pass 103 = .ok (.iaload, 1) := by decide +kernel
theorem dX1_pass_104 : decode cX1_pass 104 = .ok (.bipush 30, 2) := by decide +kernel
theorem dX1_pass_106 : decode cX1_pass 106 = .ok (.if_icmp .ge 6, 3) := by decide +kernel
theorem dX1_pass_109 : decode cX1_pass 109 = .ok (.goto 12, 3) := by decide +kernel
theorem dX1_pass_112 : decode cX1_pass 112 = .ok (.aload_n 0, 1) := by decide +kernel
theorem dX1_pass_113 : decode cX1_pass 113 = .ok (.iload_n 3, 1) := by decide +kernel
theorem dX1_pass_114 : decode cX1_pass 114 = .ok (.iconst 2, 1) := by decide +kernel
theorem dX1_pass_115 : decode cX1_pass 115 = .ok (.invokevirtual 92, 3) := by decide +kernel
theorem dX1_pass_118 : decode cX1_pass 118 = .ok (.iinc 2 1, 3) := by decide +kernel
theorem dX1_pass_121 : decode cX1_pass 121 = .ok (.iinc 3 1, 3) := by decide +kernel
theorem dX1_pass_124 : decode cX1_pass 124 = .ok (.goto (-99), 3) := by decide +kernel
theorem dX1_pass_127 : decode cX1_pass 127 = .ok (.aload_n 0, 1) := by decide +kernel
theorem dX1_pass_128 : decode cX1_pass 128 = .ok (.dup, 1) := by decide +kernel
theorem dX1_pass_129 : decode cX1_pass 129 = .ok (.getfield 102, 3) := by decide +kernel
theorem dX1_pass_132 : decode cX1_pass 132 = .ok (.iload_n 1, 1) := by decide +kernel
theorem dX1_pass_133 : decode cX1_pass 133 = .ok (.iadd, 1) := by decide +kernel
theorem dX1_pass_134 : decode cX1_pass 134 = .ok (.putfield 102, 3) := by decide +kernel
theorem dX1_pass_137 : decode cX1_pass 137 = .ok (.iload_n 2, 1) := by decide +kernel
theorem dX1_pass_138 : decode cX1_pass 138 = .ok (.ireturn, 1) := by decide +kernel
set_option maxRecDepth 20000 in
theorem ggX1_day_X1_ok : GoodIn wsX1_day wsX1_ok := goodIn_r _ [6, 7, 8, 9, 10, 11, 12, 13, 14, 15, 16, 17, 18, 19, 20] (by decide +kernel) (by decide +kernel)
set_option maxRecDepth 20000 in
theorem gX1_day_X1_ok : GoodIn wsX1_day (wsV RX1 105 RX1 yX1_ok wsX1_ok) := goodIn_app (goodIn_of _ (by decide +kernel)) ggX1_day_X1_ok
theorem dX1_day_0 : decode cX1_day 0 = .ok (.aload_n 0, 1) := by decide +kernel
theorem dX1_day_1 : decode cX1_day 1 = .ok (.aload_n 0, 1) := by decide +kernel
theorem dX1_day_2 : decode cX1_day 2 = .ok (.getfield 102, 3) := by decide +kernel
theorem dX1_day_5 : decode cX1_day 5 = .ok (.invokevirtual 105, 3) := by decide +kernel
theorem dX1_day_8 : decode cX1_day 8 = .ok (.ireturn, 1) := by decide +kernel
set_option maxRecDepth 20000 in
theorem ggX1_persons_X1_ok : GoodIn wsX1_persons wsX1_ok := goodIn_r _ [6, 7, 8, 9, 10, 11, 12, 13, 14, 15, 16, 17, 18, 19, 20] (by decide +kernel) (by decide +kernel)
set_option maxRecDepth 20000 in
theorem gX1_persons_X1_ok : GoodIn wsX1_persons (wsV RX1 105 RX1 yX1_ok wsX1_ok) := goodIn_app (goodIn_of _ (by decide +kernel)) ggX1_persons_X1_ok
theorem dX1_persons_0 : decode cX1_persons 0 = .ok (.aload_n 0, 1) := by decide +kernel
theorem dX1_persons_1 : decode cX1_persons 1 = .ok (.aload_n 0, 1) := by decide +kernel
theorem dX1_persons_2 : decode cX1_persons 2 = .ok (.getfield 39, 3) := by decide +kernel
theorem dX1_persons_5 : decode cX1_persons 5 = .ok (.invokevirtual 105, 3) := by decide +kernel
theorem dX1_persons_8 : decode cX1_persons 8 = .ok (.ireturn, 1) := by decide +kernel
set_option maxRecDepth 20000 in
theorem ggX1_slights_X1_ok : GoodIn wsX1_slights wsX1_ok := goodIn_r _ [6, 7, 8, 9, 10, 11, 12, 13, 14, 15, 16, 17, 18, 19, 20] (by decide +kernel) (by decide +kernel)
set_option maxRecDepth 20000 in
theorem gX1_slights_X1_ok : GoodIn wsX1_slights (wsV RX1 105 RX1 yX1_ok wsX1_ok) := goodIn_app (goodIn_of _ (by decide +kernel)) ggX1_slights_X1_ok
theorem dX1_slights_0 : decode cX1_slights 0 = .ok (.aload_n 0, 1) := by decide +kernel
theorem dX1_slights_1 : decode cX1_slights 1 = .ok (.aload_n 0, 1) := by decide +kernel
theorem dX1_slights_2 : decode cX1_slights 2 = .ok (.getfield 46, 3) := by decide +kernel
theorem dX1_slights_5 : decode cX1_slights 5 = .ok (.invokevirtual 105, 3) := by decide +kernel
theorem dX1_slights_8 : decode cX1_slights 8 = .ok (.ireturn, 1) := by decide +kernel
theorem dX1_here_0 : decode cX1_here 0 = .ok (.iconst 0, 1) := by decide +kernel
theorem dX1_here_1 : decode cX1_here 1 = .ok (.istore_n 1, 1) := by decide +kernel
theorem dX1_here_2 : decode cX1_here 2 = .ok (.iconst 0, 1) := by decide +kernel
theorem dX1_here_3 : decode cX1_here 3 = .ok (.istore_n 2, 1) := by decide +kernel
theorem dX1_here_4 : decode cX1_here 4 = .ok (.iload_n 2, 1) := by decide +kernel
theorem dX1_here_5 : decode cX1_here 5 = .ok (.aload_n 0, 1) := by decide +kernel
theorem dX1_here_6 : decode cX1_here 6 = .ok (.getfield 39, 3) := by decide +kernel
theorem dX1_here_9 : decode cX1_here 9 = .ok (.if_icmp .ge 26, 3) := by decide +kernel
theorem dX1_here_12 : decode cX1_here 12 = .ok (.iload_n 1, 1) := by decide +kernel
theorem dX1_here_13 : decode cX1_here 13 = .ok (.aload_n 0, 1) := by decide +kernel
theorem dX1_here_14 : decode cX1_here 14 = .ok (.getfield 13, 3) := by decide +kernel
theorem dX1_here_17 : decode cX1_here 17 = .ok (.iload_n 2, 1) := by decide +kernel
theorem dX1_here_18 : decode cX1_here 18 = .ok (.baload, 1) := by decide +kernel
theorem dX1_here_19 : decode cX1_here 19 = .ok (.ifCond .eq 7, 3) := by decide +kernel
theorem dX1_here_22 : decode cX1_here 22 = .ok (.iconst 1, 1) := by decide +kernel
theorem dX1_here_23 : decode cX1_here 23 = .ok (.goto 4, 3) := by decide +kernel
theorem dX1_here_26 : decode cX1_here 26 = .ok (.iconst 0, 1) := by decide +kernel
theorem dX1_here_27 : decode cX1_here 27 = .ok (.iadd, 1) := by decide +kernel
theorem dX1_here_28 : decode cX1_here 28 = .ok (.istore_n 1, 1) := by decide +kernel
theorem dX1_here_29 : decode cX1_here 29 = .ok (.iinc 2 1, 3) := by decide +kernel
theorem dX1_here_32 : decode cX1_here 32 = .ok (.goto (-28), 3) := by decide +kernel
theorem dX1_here_35 : decode cX1_here 35 = .ok (.iload_n 1, 1) := by decide +kernel
theorem dX1_here_36 : decode cX1_here 36 = .ok (.ireturn, 1) := by decide +kernel
set_option maxRecDepth 20000 in
theorem ggX1_inHall_X1_here : GoodIn wsX1_inHall wsX1_here := goodIn_r _ [5, 6, 7, 13, 14, 15, 16, 17, 18, 19, 20, 21, 22, 23, 24, 25] (by decide +kernel) (by decide +kernel)
set_option maxRecDepth 20000 in
theorem gX1_inHall_X1_here : GoodIn wsX1_inHall (wsV RX1 108 RX1 yX1_here wsX1_here) := goodIn_app (goodIn_of _ (by decide +kernel)) ggX1_inHall_X1_here
set_option maxRecDepth 20000 in
theorem ggX1_inHall_X1_ok : GoodIn wsX1_inHall wsX1_ok := goodIn_r _ [11, 12, 13, 14, 15, 16, 17, 18, 19, 20, 21, 22, 23, 24, 25] (by decide +kernel) (by decide +kernel)
set_option maxRecDepth 20000 in
theorem gX1_inHall_X1_ok : GoodIn wsX1_inHall (wsV RX1 105 RX1 yX1_ok wsX1_ok) := goodIn_app (goodIn_of _ (by decide +kernel)) ggX1_inHall_X1_ok
theorem dX1_inHall_0 : decode cX1_inHall 0 = .ok (.aload_n 0, 1) := by decide +kernel
theorem dX1_inHall_1 : decode cX1_inHall 1 = .ok (.aload_n 0, 1) := by decide +kernel
theorem dX1_inHall_2 : decode cX1_inHall 2 = .ok (.invokevirtual 108, 3) := by decide +kernel
theorem dX1_inHall_5 : decode cX1_inHall 5 = .ok (.invokevirtual 105, 3) := by decide +kernel
theorem dX1_inHall_8 : decode cX1_inHall 8 = .ok (.ireturn, 1) := by decide +kernel
set_option maxRecDepth 20000 in
theorem ggX1_scorned_X1_ok : GoodIn wsX1_scorned wsX1_ok := goodIn_r _ [6, 7, 8, 9, 10, 11, 12, 13, 14, 15, 16, 17, 18, 19, 20] (by decide +kernel) (by decide +kernel)
set_option maxRecDepth 20000 in
theorem gX1_scorned_X1_ok : GoodIn wsX1_scorned (wsV RX1 105 RX1 yX1_ok wsX1_ok) := goodIn_app (goodIn_of _ (by decide +kernel)) ggX1_scorned_X1_ok
theorem dX1_scorned_0 : decode cX1_scorned 0 = .ok (.aload_n 0, 1) := by decide +kernel
theorem dX1_scorned_1 : decode cX1_scorned 1 = .ok (.aload_n 0, 1) := by decide +kernel
theorem dX1_scorned_2 : decode cX1_scorned 2 = .ok (.getfield 89, 3) := by decide +kernel
theorem dX1_scorned_5 : decode cX1_scorned 5 = .ok (.invokevirtual 105, 3) := by decide +kernel
theorem dX1_scorned_8 : decode cX1_scorned 8 = .ok (.ireturn, 1) := by decide +kernel
set_option maxRecDepth 20000 in
theorem ggX1_isInHall_X1_isPerson : GoodIn wsX1_isInHall wsX1_isPerson := goodIn_r _ [7, 8, 9, 10, 6, 11, 16, 17, 18, 19, 20, 21, 22, 23, 24, 25, 26, 27, 28] (by decide +kernel) (by decide +kernel)
set_option maxRecDepth 20000 in
theorem gX1_isInHall_X1_isPerson : GoodIn wsX1_isInHall (wsV RX1 72 RX1 yX1_isPerson wsX1_isPerson) := goodIn_app (goodIn_of _ (by decide +kernel)) ggX1_isInHall_X1_isPerson
set_option maxRecDepth 20000 in
theorem ggX1_isInHall_X1_isNot : GoodIn wsX1_isInHall wsX1_isNot := goodIn_r _ [15, 1, 16, 17, 18, 19, 20, 21, 22, 23, 24, 25, 26, 27, 28] (by decide +kernel) (by decide +kernel)
set_option maxRecDepth 20000 in
theorem gX1_isInHall_X1_isNot : GoodIn wsX1_isInHall (wsV RX1 75 RX1 yX1_isNot wsX1_isNot) := goodIn_app (goodIn_of _ (by decide +kernel)) ggX1_isInHall_X1_isNot
theorem dX1_isInHall_0 : decode cX1_isInHall 0 = .ok (.aload_n 0, 1) := by decide +kernel
theorem dX1_isInHall_1 : decode cX1_isInHall 1 = .ok (.iconst 0, 1) := by decide +kernel
theorem dX1_isInHall_2 : decode cX1_isInHall 2 = .ok (.putfield 35, 3) := by decide +kernel
theorem dX1_isInHall_5 : decode cX1_isInHall 5 = .ok (.aload_n 0, 1) := by decide +kernel
theorem dX1_isInHall_6 : decode cX1_isInHall 6 = .ok (.iload_n 1, 1) := by decide +kernel
theorem dX1_isInHall_7 : decode cX1_isInHall 7 = .ok (.invokevirtual 72, 3) := by decide +kernel
theorem dX1_isInHall_10 : decode cX1_isInHall 10 = .ok (.ifCond .eq 12, 3) := by decide +kernel
theorem dX1_isInHall_13 : decode cX1_isInHall 13 = .ok (.aload_n 0, 1) := by decide +kernel
theorem dX1_isInHall_14 : decode cX1_isInHall 14 = .ok (.getfield 13, 3) := by decide +kernel
theorem dX1_isInHall_17 : decode cX1_isInHall 17 = .ok (.iload_n 1, 1) := by decide +kernel
theorem dX1_isInHall_18 : decode cX1_isInHall 18 = .ok (.baload, 1) := by decide +kernel
theorem dX1_isInHall_19 : decode cX1_isInHall 19 = .ok (.goto 8, 3) := by decide +kernel
theorem dX1_isInHall_22 : decode cX1_isInHall 22 = .ok (.aload_n 0, 1) := by decide +kernel
theorem dX1_isInHall_23 : decode cX1_isInHall 23 = .ok (.iconst 1, 1) := by decide +kernel
theorem dX1_isInHall_24 : decode cX1_isInHall 24 = .ok (.invokevirtual 75, 3) := by decide +kernel
theorem dX1_isInHall_27 : decode cX1_isInHall 27 = .ok (.ireturn, 1) := by decide +kernel
set_option maxRecDepth 20000 in
theorem ggX1_prideOf_X1_isPerson : GoodIn wsX1_prideOf wsX1_isPerson := goodIn_r _ [7, 8, 9, 10, 6, 11, 16, 17, 18, 19, 20, 21, 22, 23, 24, 25, 26, 27, 28] (by decide +kernel) (by decide +kernel)
set_option maxRecDepth 20000 in
theorem gX1_prideOf_X1_isPerson : GoodIn wsX1_prideOf (wsV RX1 72 RX1 yX1_isPerson wsX1_isPerson) := goodIn_app (goodIn_of _ (by decide +kernel)) ggX1_prideOf_X1_isPerson
set_option maxRecDepth 20000 in
theorem ggX1_prideOf_X1_no : GoodIn wsX1_prideOf wsX1_no := goodIn_r _ [15, 1, 16, 17, 18, 19, 20, 21, 22, 23, 24, 25, 26, 27, 28] (by decide +kernel) (by decide +kernel)
set_option maxRecDepth 20000 in
theorem gX1_prideOf_X1_no : GoodIn wsX1_prideOf (wsV RX1 69 RX1 yX1_no wsX1_no) := goodIn_app (goodIn_of _ (by decide +kernel)) ggX1_prideOf_X1_no
theorem dX1_prideOf_0 : decode cX1_prideOf 0 = .ok (.aload_n 0, 1) := by decide +kernel
theorem dX1_prideOf_1 : decode cX1_prideOf 1 = .ok (.iconst 0, 1) := by decide +kernel
theorem dX1_prideOf_2 : decode cX1_prideOf 2 = .ok (.putfield 35, 3) := by decide +kernel
theorem dX1_prideOf_5 : decode cX1_prideOf 5 = .ok (.aload_n 0, 1) := by decide +kernel
theorem dX1_prideOf_6 : decode cX1_prideOf 6 = .ok (.iload_n 1, 1) := by decide +kernel
theorem dX1_prideOf_7 : decode cX1_prideOf 7 = .ok (.invokevirtual 72, 3) := by decide +kernel
theorem dX1_prideOf_10 : decode cX1_prideOf 10 = .ok (.ifCond .eq 12, 3) := by decide +kernel
theorem dX1_prideOf_13 : decode cX1_prideOf 13 = .ok (.aload_n 0, 1) := by decide +kernel
theorem dX1_prideOf_14 : decode cX1_prideOf 14 = .ok (.getfield 9, 3) := by decide +kernel
theorem dX1_prideOf_17 : decode cX1_prideOf 17 = .ok (.iload_n 1, 1) := by decide +kernel
theorem dX1_prideOf_18 : decode cX1_prideOf 18 = .ok (.iaload, 1) := by decide +kernel
theorem dX1_prideOf_19 : decode cX1_prideOf 19 = .ok (.goto 8, 3) := by decide +kernel
theorem dX1_prideOf_22 : decode cX1_prideOf 22 = .ok (.aload_n 0, 1) := by decide +kernel
theorem dX1_prideOf_23 : decode cX1_prideOf 23 = .ok (.iconst 1, 1) := by decide +kernel
theorem dX1_prideOf_24 : decode cX1_prideOf 24 = .ok (.invokevirtual 69, 3) := by decide +kernel
theorem dX1_prideOf_27 : decode cX1_prideOf 27 = .ok (.ireturn, 1) := by decide +kernel
theorem dX1_done_0 : decode cX1_done 0 = .ok (.iconst 0, 1) := by decide +kernel
theorem dX1_done_1 : decode cX1_done 1 = .ok (.istore_n 3, 1) := by decide +kernel
theorem dX1_done_2 : decode cX1_done 2 = .ok (.iconst 0, 1) := by decide +kernel
theorem dX1_done_3 : decode cX1_done 3 = .ok (.istore 4, 2) := by decide +kernel
theorem dX1_done_5 : decode cX1_done 5 = .ok (.iload 4, 2) := by decide +kernel
theorem dX1_done_7 : decode cX1_done 7 = .ok (.aload_n 0, 1) := by decide +kernel
theorem dX1_done_8 : decode cX1_done 8 = .ok (.getfield 46, 3) := by decide +kernel
theorem dX1_done_11 : decode cX1_done 11 = .ok (.if_icmp .ge 55, 3) := by decide +kernel
theorem dX1_done_14 : decode cX1_done 14 = .ok (.iload_n 3, 1) := by decide +kernel
theorem dX1_done_15 : decode cX1_done 15 = .ok (.iload_n 1, 1) := by decide +kernel
theorem dX1_done_16 : decode cX1_done 16 = .ok (.iconst (-1), 1) := by decide +kernel
theorem dX1_done_17 : decode cX1_done 17 = .ok (.if_icmp .eq 14, 3) := by decide +kernel
theorem dX1_done_20 : decode cX1_done 20 = .ok (.aload_n 0, 1) := by decide +kernel
theorem dX1_done_21 : decode cX1_done 21 = .ok (.getfield 17, 3) := by decide +kernel
theorem dX1_done_24 : decode cX1_done 24 = .ok (.iload 4, 2) := by decide +kernel
theorem dX1_done_26 : decode cX1_done 26 = .ok (.iaload, 1) := by decide +kernel
theorem dX1_done_27 : decode cX1_done 27 = .ok (.iload_n 1, 1) := by decide +kernel
theorem dX1_done_28 : decode cX1_done 28 = .ok (.if_icmp .ne 29, 3) := by decide +kernel
theorem dX1_done_31 : decode cX1_done 31 = .ok (.iload_n 2, 1) := by decide +kernel
theorem dX1_done_32 : decode cX1_done 32 = .ok (.iconst (-1), 1) := by decide +kernel
theorem dX1_done_33 : decode cX1_done 33 = .ok (.if_icmp .eq 14, 3) := by decide +kernel
theorem dX1_done_36 : decode cX1_done 36 = .ok (.aload_n 0, 1) := by decide +kernel
theorem dX1_done_37 : decode cX1_done 37 = .ok (.getfield 20, 3) := by decide +kernel
theorem dX1_done_40 : decode cX1_done 40 = .ok (.iload 4, 2) := by decide +kernel
theorem dX1_done_42 : decode cX1_done 42 = .ok (.iaload, 1) := by decide +kernel
theorem dX1_done_43 : decode cX1_done 43 = .ok (.iload_n 2, 1) := by decide +kernel
theorem dX1_done_44 : decode cX1_done 44 = .ok (.if_icmp .ne 13, 3) := by decide +kernel
theorem dX1_done_47 : decode cX1_done 47 = .ok (.aload_n 0, 1) := by decide +kernel
theorem dX1_done_48 : decode cX1_done 48 = .ok (.getfield 23, 3) := by decide +kernel
theorem dX1_done_51 : decode cX1_done 51 = .ok (.iload 4, 2) := by decide +kernel
theorem dX1_done_53 : decode cX1_done 53 = .ok (.iaload, 1) := by decide +kernel
theorem dX1_done_54 : decode cX1_done 54 = .ok (.goto 4, 3) := by decide +kernel
theorem dX1_done_57 : decode cX1_done 57 = .ok (.iconst 0, 1) := by decide +kernel
theorem dX1_done_58 : decode cX1_done 58 = .ok (.iadd, 1) := by decide +kernel
theorem dX1_done_59 : decode cX1_done 59 = .ok (.istore_n 3, 1) := by decide +kernel
theorem dX1_done_60 : decode cX1_done 60 = .ok (.iinc 4 1, 3) := by decide +kernel
theorem dX1_done_63 : decode cX1_done 63 = .ok (.goto (-58), 3) := by decide +kernel
theorem dX1_done_66 : decode cX1_done 66 = .ok (.iload_n 3, 1) := by decide +kernel
theorem dX1_done_67 : decode cX1_done 67 = .ok (.ireturn, 1) := by decide +kernel
set_option maxRecDepth 20000 in
theorem ggX1_borneBy_X1_isPerson : GoodIn wsX1_borneBy wsX1_isPerson := goodIn_r _ [6, 7, 8, 9, 5, 10, 23, 24, 25, 26, 27, 28, 29, 30, 31, 32, 33, 34, 35] (by decide +kernel) (by decide +kernel)
set_option maxRecDepth 20000 in
theorem gX1_borneBy_X1_isPerson : GoodIn wsX1_borneBy (wsV RX1 72 RX1 yX1_isPerson wsX1_isPerson) := goodIn_app (goodIn_of _ (by decide +kernel)) ggX1_borneBy_X1_isPerson
set_option maxRecDepth 20000 in
theorem ggX1_borneBy_X1_done : GoodIn wsX1_borneBy wsX1_done := goodIn_r _ [14, 15, 16, 17, 18, 23, 24, 25, 26, 27, 28, 29, 30, 31, 32, 33, 34, 35] (by decide +kernel) (by decide +kernel)
set_option maxRecDepth 20000 in
theorem gX1_borneBy_X1_done : GoodIn wsX1_borneBy (wsV RX1 112 RX1 yX1_done wsX1_done) := goodIn_app (goodIn_of _ (by decide +kernel)) ggX1_borneBy_X1_done
set_option maxRecDepth 20000 in
theorem ggX1_borneBy_X1_no : GoodIn wsX1_borneBy wsX1_no := goodIn_r _ [22, 1, 23, 24, 25, 26, 27, 28, 29, 30, 31, 32, 33, 34, 35] (by decide +kernel) (by decide +kernel)
set_option maxRecDepth 20000 in
theorem gX1_borneBy_X1_no : GoodIn wsX1_borneBy (wsV RX1 69 RX1 yX1_no wsX1_no) := goodIn_app (goodIn_of _ (by decide +kernel)) ggX1_borneBy_X1_no
theorem dX1_borneBy_0 : decode cX1_borneBy 0 = .ok (.aload_n 0, 1) := by decide +kernel
theorem dX1_borneBy_1 : decode cX1_borneBy 1 = .ok (.iconst 0, 1) := by decide +kernel
theorem dX1_borneBy_2 : decode cX1_borneBy 2 = .ok (.putfield 35, 3) := by decide +kernel
theorem dX1_borneBy_5 : decode cX1_borneBy 5 = .ok (.aload_n 0, 1) := by decide +kernel
theorem dX1_borneBy_6 : decode cX1_borneBy 6 = .ok (.iload_n 1, 1) := by decide +kernel
theorem dX1_borneBy_7 : decode cX1_borneBy 7 = .ok (.invokevirtual 72, 3) := by decide +kernel
theorem dX1_borneBy_10 : decode cX1_borneBy 10 = .ok (.ifCond .eq 12, 3) := by decide +kernel
theorem dX1_borneBy_13 : decode cX1_borneBy 13 = .ok (.aload_n 0, 1) := by decide +kernel
theorem dX1_borneBy_14 : decode cX1_borneBy 14 = .ok (.iconst (-1), 1) := by decide +kernel
theorem dX1_borneBy_15 : decode cX1_borneBy 15 = .ok (.iload_n 1, 1) := by decide +kernel
theorem dX1_borneBy_16 : decode cX1_borneBy 16 = .ok (.invokevirtual 112, 3) := by decide +kernel
theorem dX1_borneBy_19 : decode cX1_borneBy 19 = .ok (.goto 8, 3) := by decide +kernel
theorem dX1_borneBy_22 : decode cX1_borneBy 22 = .ok (.aload_n 0, 1) := by decide +kernel
theorem dX1_borneBy_23 : decode cX1_borneBy 23 = .ok (.iconst 1, 1) := by decide +kernel
theorem dX1_borneBy_24 : decode cX1_borneBy 24 = .ok (.invokevirtual 69, 3) := by decide +kernel
theorem dX1_borneBy_27 : decode cX1_borneBy 27 = .ok (.ireturn, 1) := by decide +kernel
set_option maxRecDepth 20000 in
theorem ggX1_owedBy_X1_isPerson : GoodIn wsX1_owedBy wsX1_isPerson := goodIn_r _ [6, 7, 8, 9, 5, 10, 23, 24, 25, 26, 27, 28, 29, 30, 31, 32, 33, 34, 35] (by decide +kernel) (by decide +kernel)
set_option maxRecDepth 20000 in
theorem gX1_owedBy_X1_isPerson : GoodIn wsX1_owedBy (wsV RX1 72 RX1 yX1_isPerson wsX1_isPerson) := goodIn_app (goodIn_of _ (by decide +kernel)) ggX1_owedBy_X1_isPerson
set_option maxRecDepth 20000 in
theorem ggX1_owedBy_X1_done : GoodIn wsX1_owedBy wsX1_done := goodIn_r _ [14, 15, 16, 17, 18, 23, 24, 25, 26, 27, 28, 29, 30, 31, 32, 33, 34, 35] (by decide +kernel) (by decide +kernel)
set_option maxRecDepth 20000 in
theorem gX1_owedBy_X1_done : GoodIn wsX1_owedBy (wsV RX1 112 RX1 yX1_done wsX1_done) := goodIn_app (goodIn_of _ (by decide +kernel)) ggX1_owedBy_X1_done
set_option maxRecDepth 20000 in
theorem ggX1_owedBy_X1_no : GoodIn wsX1_owedBy wsX1_no := goodIn_r _ [22, 1, 23, 24, 25, 26, 27, 28, 29, 30, 31, 32, 33, 34, 35] (by decide +kernel) (by decide +kernel)
set_option maxRecDepth 20000 in
theorem gX1_owedBy_X1_no : GoodIn wsX1_owedBy (wsV RX1 69 RX1 yX1_no wsX1_no) := goodIn_app (goodIn_of _ (by decide +kernel)) ggX1_owedBy_X1_no
theorem dX1_owedBy_0 : decode cX1_owedBy 0 = .ok (.aload_n 0, 1) := by decide +kernel
theorem dX1_owedBy_1 : decode cX1_owedBy 1 = .ok (.iconst 0, 1) := by decide +kernel
theorem dX1_owedBy_2 : decode cX1_owedBy 2 = .ok (.putfield 35, 3) := by decide +kernel
theorem dX1_owedBy_5 : decode cX1_owedBy 5 = .ok (.aload_n 0, 1) := by decide +kernel
theorem dX1_owedBy_6 : decode cX1_owedBy 6 = .ok (.iload_n 1, 1) := by decide +kernel
theorem dX1_owedBy_7 : decode cX1_owedBy 7 = .ok (.invokevirtual 72, 3) := by decide +kernel
theorem dX1_owedBy_10 : decode cX1_owedBy 10 = .ok (.ifCond .eq 12, 3) := by decide +kernel
theorem dX1_owedBy_13 : decode cX1_owedBy 13 = .ok (.aload_n 0, 1) := by decide +kernel
theorem dX1_owedBy_14 : decode cX1_owedBy 14 = .ok (.iload_n 1, 1) := by decide +kernel
theorem dX1_owedBy_15 : decode cX1_owedBy 15 = .ok (.iconst (-1), 1) := by decide +kernel
theorem dX1_owedBy_16 : decode cX1_owedBy 16 = .ok (.invokevirtual 112, 3) := by decide +kernel
theorem dX1_owedBy_19 : decode cX1_owedBy 19 = .ok (.goto 8, 3) := by decide +kernel
theorem dX1_owedBy_22 : decode cX1_owedBy 22 = .ok (.aload_n 0, 1) := by decide +kernel
theorem dX1_owedBy_23 : decode cX1_owedBy 23 = .ok (.iconst 1, 1) := by decide +kernel
theorem dX1_owedBy_24 : decode cX1_owedBy 24 = .ok (.invokevirtual 69, 3) := by decide +kernel
theorem dX1_owedBy_27 : decode cX1_owedBy 27 = .ok (.ireturn, 1) := by decide +kernel
set_option maxRecDepth 20000 in
theorem ggX1_balance_X1_isPerson : GoodIn wsX1_balance wsX1_isPerson := goodIn_r _ [6, 7, 8, 9, 5, 10, 23, 24, 25, 26, 27, 28, 29, 30, 31, 32, 33, 34, 35] (by decide +kernel) (by decide +kernel)
set_option maxRecDepth 20000 in
theorem gX1_balance_X1_isPerson : GoodIn wsX1_balance (wsV RX1 72 RX1 yX1_isPerson wsX1_isPerson) := goodIn_app (goodIn_of _ (by decide +kernel)) ggX1_balance_X1_isPerson
set_option maxRecDepth 20000 in
theorem ggX1_balance_X1_done : GoodIn wsX1_balance wsX1_done := goodIn_r _ [14, 15, 16, 17, 18, 23, 24, 25, 26, 27, 28, 29, 30, 31, 32, 33, 34, 35] (by decide +kernel) (by decide +kernel)
set_option maxRecDepth 20000 in
theorem gX1_balance_X1_done : GoodIn wsX1_balance (wsV RX1 112 RX1 yX1_done wsX1_done) := goodIn_app (goodIn_of _ (by decide +kernel)) ggX1_balance_X1_done
set_option maxRecDepth 20000 in
theorem ggX1_balance_X1_no : GoodIn wsX1_balance wsX1_no := goodIn_r _ [22, 1, 23, 24, 25, 26, 27, 28, 29, 30, 31, 32, 33, 34, 35] (by decide +kernel) (by decide +kernel)
set_option maxRecDepth 20000 in
theorem gX1_balance_X1_no : GoodIn wsX1_balance (wsV RX1 69 RX1 yX1_no wsX1_no) := goodIn_app (goodIn_of _ (by decide +kernel)) ggX1_balance_X1_no
theorem dX1_balance_0 : decode cX1_balance 0 = .ok (.aload_n 0, 1) := by decide +kernel
theorem dX1_balance_1 : decode cX1_balance 1 = .ok (.iconst 0, 1) := by decide +kernel
theorem dX1_balance_2 : decode cX1_balance 2 = .ok (.putfield 35, 3) := by decide +kernel
theorem dX1_balance_5 : decode cX1_balance 5 = .ok (.aload_n 0, 1) := by decide +kernel
theorem dX1_balance_6 : decode cX1_balance 6 = .ok (.iload_n 1, 1) := by decide +kernel
theorem dX1_balance_7 : decode cX1_balance 7 = .ok (.invokevirtual 72, 3) := by decide +kernel
theorem dX1_balance_10 : decode cX1_balance 10 = .ok (.ifCond .eq 27, 3) := by decide +kernel
theorem dX1_balance_13 : decode cX1_balance 13 = .ok (.aload_n 0, 1) := by decide +kernel
theorem dX1_balance_14 : decode cX1_balance 14 = .ok (.iload_n 2, 1) := by decide +kernel
theorem dX1_balance_15 : decode cX1_balance 15 = .ok (.invokevirtual 72, 3) := by decide +kernel
theorem dX1_balance_18 : decode cX1_balance 18 = .ok (.ifCond .eq 19, 3) := by decide +kernel
theorem dX1_balance_21 : decode cX1_balance 21 = .ok (.aload_n 0, 1) := by decide +kernel
theorem dX1_balance_22 : decode cX1_balance 22 = .ok (.iload_n 1, 1) := by decide +kernel
theorem dX1_balance_23 : decode cX1_balance 23 = .ok (.iload_n 2, 1) := by decide +kernel
theorem dX1_balance_24 : decode cX1_balance 24 = .ok (.invokevirtual 112, 3) := by decide +kernel
theorem dX1_balance_27 : decode cX1_balance 27 = .ok (.aload_n 0, 1) := by decide +kernel
theorem dX1_balance_28 : decode cX1_balance 28 = .ok (.iload_n 2, 1) := by decide +kernel
theorem dX1_balance_29 : decode cX1_balance 29 = .ok (.iload_n 1, 1) := by decide +kernel
theorem dX1_balance_30 : decode cX1_balance 30 = .ok (.invokevirtual 112, 3) := by decide +kernel
theorem dX1_balance_33 : decode cX1_balance 33 = .ok (.isub, 1) := by decide +kernel
theorem dX1_balance_34 : decode cX1_balance 34 = .ok (.goto 8, 3) := by decide +kernel
theorem dX1_balance_37 : decode cX1_balance 37 = .ok (.aload_n 0, 1) := by decide +kernel
theorem dX1_balance_38 : decode cX1_balance 38 = .ok (.iconst 1, 1) := by decide +kernel
theorem dX1_balance_39 : decode cX1_balance 39 = .ok (.invokevirtual 69, 3) := by decide +kernel
theorem dX1_balance_42 : decode cX1_balance 42 = .ok (.ireturn, 1) := by decide +kernel
set_option maxRecDepth 20000 in
theorem ggX1_sore_X1_done : GoodIn wsX1_sore wsX1_done := goodIn_r _ [6, 7, 8, 9, 10, 11, 12, 13, 14, 15, 16, 17, 18, 19, 20, 21, 22, 23] (by decide +kernel) (by decide +kernel)
set_option maxRecDepth 20000 in
theorem gX1_sore_X1_done : GoodIn wsX1_sore (wsV RX1 112 RX1 yX1_done wsX1_done) := goodIn_app (goodIn_of _ (by decide +kernel)) ggX1_sore_X1_done
theorem dX1_sore_0 : decode cX1_sore 0 = .ok (.iconst (-1), 1) := by decide +kernel
theorem dX1_sore_1 : decode cX1_sore 1 = .ok (.istore_n 1, 1) := by decide +kernel
theorem dX1_sore_2 : decode cX1_sore 2 = .ok (.iconst 0, 1) := by decide +kernel
theorem dX1_sore_3 : decode cX1_sore 3 = .ok (.istore_n 2, 1) := by decide +kernel
theorem dX1_sore_4 : decode cX1_sore 4 = .ok (.iload_n 2, 1) := by decide +kernel
theorem dX1_sore_5 : decode cX1_sore 5 = .ok (.aload_n 0, 1) := by decide +kernel
theorem dX1_sore_6 : decode cX1_sore 6 = .ok (.getfield 39, 3) := by decide +kernel
theorem dX1_sore_9 : decode cX1_sore 9 = .ok (.if_icmp .ge 31, 3) := by decide +kernel
theorem dX1_sore_12 : decode cX1_sore 12 = .ok (.iload_n 1, 1) := by decide +kernel
theorem dX1_sore_13 : decode cX1_sore 13 = .ok (.iconst (-1), 1) := by decide +kernel
theorem dX1_sore_14 : decode cX1_sore 14 = .ok (.if_icmp .eq 18, 3) := by decide +kernel
theorem dX1_sore_17 : decode cX1_sore 17 = .ok (.aload_n 0, 1) := by decide +kernel
theorem dX1_sore_18 : decode cX1_sore 18 = .ok (.iconst (-1), 1) := by decide +kernel
theorem dX1_sore_19 : decode cX1_sore 19 = .ok (.iload_n 2, 1) := by decide +kernel
theorem dX1_sore_20 : decode cX1_sore 20 = .ok (.invokevirtual 112, 3) := by decide +kernel
theorem dX1_sore_23 : decode cX1_sore 23 = .ok (.aload_n 0, 1) := by decide +kernel
theorem dX1_sore_24 : decode cX1_sore 24 = .ok (.iconst (-1), 1) := by decide +kernel
theorem dX1_sore_25 : decode cX1_sore 25 = .ok (.iload_n 1, 1) := by decide +kernel
theorem dX1_sore_26 : decode cX1_sore 26 = .ok (.invokevirtual 112, 3) := by decide +kernel
theorem dX1_sore_29 : decode cX1_sore 29 = .ok (.if_icmp .le 5, 3) := by decide +kernel
theorem dX1_sore_32 : decode cX1_sore 32 = .ok (.iload_n 2, 1) := by decide +kernel
theorem dX1_sore_33 : decode cX1_sore 33 = .ok (.istore_n 1, 1) := by decide +kernel
theorem dX1_sore_34 : decode cX1_sore 34 = .ok (.iinc 2 1, 3) := by decide +kernel
theorem dX1_sore_37 : decode cX1_sore 37 = .ok (.goto (-33), 3) := by decide +kernel
theorem dX1_sore_40 : decode cX1_sore 40 = .ok (.iload_n 1, 1) := by decide +kernel
theorem dX1_sore_41 : decode cX1_sore 41 = .ok (.ireturn, 1) := by decide +kernel
set_option maxRecDepth 20000 in
theorem ggX1_sorest_X1_sore : GoodIn wsX1_sorest wsX1_sore := goodIn_r _ [5, 6, 7, 8, 9, 4, 10, 11, 12, 13, 14, 20, 21, 22, 23, 24, 25, 26, 27, 28, 29, 30, 31, 32] (by decide +kernel) (by decide +kernel)
set_option maxRecDepth 20000 in
theorem gX1_sorest_X1_sore : GoodIn wsX1_sorest (wsV RX1 115 RX1 yX1_sore wsX1_sore) := goodIn_app (goodIn_of _ (by decide +kernel)) ggX1_sorest_X1_sore
set_option maxRecDepth 20000 in
theorem ggX1_sorest_X1_ok : GoodIn wsX1_sorest wsX1_ok := goodIn_r _ [18, 19, 20, 21, 22, 23, 24, 25, 26, 27, 28, 29, 30, 31, 32] (by decide +kernel) (by decide +kernel)
set_option maxRecDepth 20000 in
theorem gX1_sorest_X1_ok : GoodIn wsX1_sorest (wsV RX1 105 RX1 yX1_ok wsX1_ok) := goodIn_app (goodIn_of _ (by decide +kernel)) ggX1_sorest_X1_ok
theorem dX1_sorest_0 : decode cX1_sorest 0 = .ok (.aload_n 0, 1) := by decide +kernel
theorem dX1_sorest_1 : decode cX1_sorest 1 = .ok (.aload_n 0, 1) := by decide +kernel
theorem dX1_sorest_2 : decode cX1_sorest 2 = .ok (.invokevirtual 115, 3) := by decide +kernel
theorem dX1_sorest_5 : decode cX1_sorest 5 = .ok (.invokevirtual 105, 3) := by decide +kernel
theorem dX1_sorest_8 : decode cX1_sorest 8 = .ok (.ireturn, 1) := by decide +kernel
set_option maxRecDepth 20000 in
theorem ggX1_of_X1_isSlight : GoodIn wsX1_of wsX1_isSlight := goodIn_r _ [6, 7, 8, 9, 5, 10, 15, 16, 17, 18, 19, 20, 21, 22, 23, 24, 25, 26, 27] (by decide +kernel) (by decide +kernel)
set_option maxRecDepth 20000 in
theorem gX1_of_X1_isSlight : GoodIn wsX1_of (wsV RX1 78 RX1 yX1_isSlight wsX1_isSlight) := goodIn_app (goodIn_of _ (by decide +kernel)) ggX1_of_X1_isSlight
set_option maxRecDepth 20000 in
theorem ggX1_of_X1_no : GoodIn wsX1_of wsX1_no := goodIn_r _ [14, 1, 15, 16, 17, 18, 19, 20, 21, 22, 23, 24, 25, 26, 27] (by decide +kernel) (by decide +kernel)
set_option maxRecDepth 20000 in
theorem gX1_of_X1_no : GoodIn wsX1_of (wsV RX1 69 RX1 yX1_no wsX1_no) := goodIn_app (goodIn_of _ (by decide +kernel)) ggX1_of_X1_no
theorem dX1_of_0 : decode cX1_of 0 = .ok (.aload_n 0, 1) := by decide +kernel
theorem dX1_of_1 : decode cX1_of 1 = .ok (.iconst 0, 1) := by decide +kernel
theorem dX1_of_2 : decode cX1_of 2 = .ok (.putfield 35, 3) := by decide +kernel
theorem dX1_of_5 : decode cX1_of 5 = .ok (.aload_n 0, 1) := by decide +kernel
theorem dX1_of_6 : decode cX1_of 6 = .ok (.iload_n 1, 1) := by decide +kernel
theorem dX1_of_7 : decode cX1_of 7 = .ok (.invokevirtual 78, 3) := by decide +kernel
theorem dX1_of_10 : decode cX1_of 10 = .ok (.ifCond .eq 9, 3) := by decide +kernel
theorem dX1_of_13 : decode cX1_of 13 = .ok (.aload_n 2, 1) := by decide +kernel
theorem dX1_of_14 : decode cX1_of 14 = .ok (.iload_n 1, 1) := by decide +kernel
theorem dX1_of_15 : decode cX1_of 15 = .ok (.iaload, 1) := by decide +kernel
theorem dX1_of_16 : decode cX1_of 16 = .ok (.goto 8, 3) := by decide +kernel
theorem dX1_of_19 : decode cX1_of 19 = .ok (.aload_n 0, 1) := by decide +kernel
theorem dX1_of_20 : decode cX1_of 20 = .ok (.iconst 1, 1) := by decide +kernel
theorem dX1_of_21 : decode cX1_of 21 = .ok (.invokevirtual 69, 3) := by decide +kernel
theorem dX1_of_24 : decode cX1_of 24 = .ok (.ireturn, 1) := by decide +kernel
set_option maxRecDepth 20000 in
theorem ggX1_offenderOf_X1_of : GoodIn wsX1_offenderOf wsX1_of := goodIn_r _ [6, 7, 8, 9, 10, 5, 11, 12, 13, 14, 15, 16, 17, 18, 19, 20, 21, 22, 23, 24, 25, 26, 27, 28, 29, 30, 31, 32] (by decide +kernel) (by decide +kernel)
set_option maxRecDepth 20000 in
theorem gX1_offenderOf_X1_of : GoodIn wsX1_offenderOf (wsV RX1 118 RX1 yX1_of wsX1_of) := goodIn_app (goodIn_of _ (by decide +kernel)) ggX1_offenderOf_X1_of
theorem dX1_offenderOf_0 : decode cX1_offenderOf 0 = .ok (.aload_n 0, 1) := by decide +kernel
theorem dX1_offenderOf_1 : decode cX1_offenderOf 1 = .ok (.iload_n 1, 1) := by decide +kernel
theorem dX1_offenderOf_2 : decode cX1_offenderOf 2 = .ok (.aload_n 0, 1) := by decide +kernel
theorem dX1_offenderOf_3 : decode cX1_offenderOf 3 = .ok (.getfield 17, 3) := by decide +kernel
theorem dX1_offenderOf_6 : decode cX1_offenderOf 6 = .ok (.invokevirtual 118, 3) := by decide +kernel
theorem dX1_offenderOf_9 : decode cX1_offenderOf 9 = .ok (.ireturn, 1) := by decide +kernel
set_option maxRecDepth 20000 in
theorem ggX1_offendedOf_X1_of : GoodIn wsX1_offendedOf wsX1_of := goodIn_r _ [6, 7, 8, 9, 10, 5, 11, 12, 13, 14, 15, 16, 17, 18, 19, 20, 21, 22, 23, 24, 25, 26, 27, 28, 29, 30, 31, 32] (by decide +kernel) (by decide +kernel)
set_option maxRecDepth 20000 in
theorem gX1_offendedOf_X1_of : GoodIn wsX1_offendedOf (wsV RX1 118 RX1 yX1_of wsX1_of) := goodIn_app (goodIn_of _ (by decide +kernel)) ggX1_offendedOf_X1_of
theorem dX1_offendedOf_0 : decode cX1_offendedOf 0 = .ok (.aload_n 0, 1) := by decide +kernel
theorem dX1_offendedOf_1 : decode cX1_offendedOf 1 = .ok (.iload_n 1, 1) := by decide +kernel
theorem dX1_offendedOf_2 : decode cX1_offendedOf 2 = .ok (.aload_n 0, 1) := by decide +kernel
theorem dX1_offendedOf_3 : decode cX1_offendedOf 3 = .ok (.getfield 20, 3) := by decide +kernel
theorem dX1_offendedOf_6 : decode cX1_offendedOf 6 = .ok (.invokevirtual 118, 3) := by decide +kernel
theorem dX1_offendedOf_9 : decode cX1_offendedOf 9 = .ok (.ireturn, 1) := by decide +kernel
set_option maxRecDepth 20000 in
theorem ggX1_weightOf_X1_of : GoodIn wsX1_weightOf wsX1_of := goodIn_r _ [6, 7, 8, 9, 10, 5, 11, 12, 13, 14, 15, 16, 17, 18, 19, 20, 21, 22, 23, 24, 25, 26, 27, 28, 29, 30, 31, 32] (by decide +kernel) (by decide +kernel)
set_option maxRecDepth 20000 in
theorem gX1_weightOf_X1_of : GoodIn wsX1_weightOf (wsV RX1 118 RX1 yX1_of wsX1_of) := goodIn_app (goodIn_of _ (by decide +kernel)) ggX1_weightOf_X1_of
theorem dX1_weightOf_0 : decode cX1_weightOf 0 = .ok (.aload_n 0, 1) := by decide +kernel
theorem dX1_weightOf_1 : decode cX1_weightOf 1 = .ok (.iload_n 1, 1) := by decide +kernel
theorem dX1_weightOf_2 : decode cX1_weightOf 2 = .ok (.aload_n 0, 1) := by decide +kernel
theorem dX1_weightOf_3 : decode cX1_weightOf 3 = .ok (.getfield 23, 3) := by decide +kernel
theorem dX1_weightOf_6 : decode cX1_weightOf 6 = .ok (.invokevirtual 118, 3) := by decide +kernel
theorem dX1_weightOf_9 : decode cX1_weightOf 9 = .ok (.ireturn, 1) := by decide +kernel
set_option maxRecDepth 20000 in
theorem ggX1_stateOf_X1_of : GoodIn wsX1_stateOf wsX1_of := goodIn_r _ [6, 7, 8, 9, 10, 5, 11, 12, 13, 14, 15, 16, 17, 18, 19, 20, 21, 22, 23, 24, 25, 26, 27, 28, 29, 30, 31, 32] (by decide +kernel) (by decide +kernel)
set_option maxRecDepth 20000 in
theorem gX1_stateOf_X1_of : GoodIn wsX1_stateOf (wsV RX1 118 RX1 yX1_of wsX1_of) := goodIn_app (goodIn_of _ (by decide +kernel)) ggX1_stateOf_X1_of
theorem dX1_stateOf_0 : decode cX1_stateOf 0 = .ok (.aload_n 0, 1) := by decide +kernel
theorem dX1_stateOf_1 : decode cX1_stateOf 1 = .ok (.iload_n 1, 1) := by decide +kernel
theorem dX1_stateOf_2 : decode cX1_stateOf 2 = .ok (.aload_n 0, 1) := by decide +kernel
theorem dX1_stateOf_3 : decode cX1_stateOf 3 = .ok (.getfield 26, 3) := by decide +kernel
theorem dX1_stateOf_6 : decode cX1_stateOf 6 = .ok (.invokevirtual 118, 3) := by decide +kernel
theorem dX1_stateOf_9 : decode cX1_stateOf 9 = .ok (.ireturn, 1) := by decide +kernel
set_option maxRecDepth 20000 in
theorem ggX1_borneFor_X1_of : GoodIn wsX1_borneFor wsX1_of := goodIn_r _ [6, 7, 8, 9, 10, 5, 11, 12, 13, 14, 15, 16, 17, 18, 19, 20, 21, 22, 23, 24, 25, 26, 27, 28, 29, 30, 31, 32] (by decide +kernel) (by decide +kernel)
set_option maxRecDepth 20000 in
theorem gX1_borneFor_X1_of : GoodIn wsX1_borneFor (wsV RX1 118 RX1 yX1_of wsX1_of) := goodIn_app (goodIn_of _ (by decide +kernel)) ggX1_borneFor_X1_of
theorem dX1_borneFor_0 : decode cX1_borneFor 0 = .ok (.aload_n 0, 1) := by decide +kernel
theorem dX1_borneFor_1 : decode cX1_borneFor 1 = .ok (.iload_n 1, 1) := by decide +kernel
theorem dX1_borneFor_2 : decode cX1_borneFor 2 = .ok (.aload_n 0, 1) := by decide +kernel
theorem dX1_borneFor_3 : decode cX1_borneFor 3 = .ok (.getfield 29, 3) := by decide +kernel
theorem dX1_borneFor_6 : decode cX1_borneFor 6 = .ok (.invokevirtual 118, 3) := by decide +kernel
theorem dX1_borneFor_9 : decode cX1_borneFor 9 = .ok (.ireturn, 1) := by decide +kernel
set_option maxRecDepth 20000 in
theorem ggX1_quietFor_X1_of : GoodIn wsX1_quietFor wsX1_of := goodIn_r _ [6, 7, 8, 9, 10, 5, 11, 12, 13, 14, 15, 16, 17, 18, 19, 20, 21, 22, 23, 24, 25, 26, 27, 28, 29, 30, 31, 32] (by decide +kernel) (by decide +kernel)
set_option maxRecDepth 20000 in
theorem gX1_quietFor_X1_of : GoodIn wsX1_quietFor (wsV RX1 118 RX1 yX1_of wsX1_of) := goodIn_app (goodIn_of _ (by decide +kernel)) ggX1_quietFor_X1_of
theorem dX1_quietFor_0 : decode cX1_quietFor 0 = .ok (.aload_n 0, 1) := by decide +kernel
theorem dX1_quietFor_1 : decode cX1_quietFor 1 = .ok (.iload_n 1, 1) := by decide +kernel
theorem dX1_quietFor_2 : decode cX1_quietFor 2 = .ok (.aload_n 0, 1) := by decide +kernel
theorem dX1_quietFor_3 : decode cX1_quietFor 3 = .ok (.getfield 32, 3) := by decide +kernel
theorem dX1_quietFor_6 : decode cX1_quietFor 6 = .ok (.invokevirtual 118, 3) := by decide +kernel
theorem dX1_quietFor_9 : decode cX1_quietFor 9 = .ok (.ireturn, 1) := by decide +kernel
set_option maxRecDepth 20000 in
theorem ggX1_witnessesFor_X1_isSlight : GoodIn wsX1_witnessesFor wsX1_isSlight := goodIn_r _ [6, 7, 8, 9, 5, 10, 23, 24, 25, 26, 27, 28, 29, 30, 31, 32, 33, 34, 35] (by decide +kernel) (by decide +kernel)
set_option maxRecDepth 20000 in
theorem gX1_witnessesFor_X1_isSlight : GoodIn wsX1_witnessesFor (wsV RX1 78 RX1 yX1_isSlight wsX1_isSlight) := goodIn_app (goodIn_of _ (by decide +kernel)) ggX1_witnessesFor_X1_isSlight
set_option maxRecDepth 20000 in
theorem ggX1_witnessesFor_X1_witnesses : GoodIn wsX1_witnessesFor wsX1_witnesses := goodIn_r _ [14, 15, 16, 17, 18, 23, 24, 25, 26, 27, 28, 29, 30, 31, 32, 33, 34, 35] (by decide +kernel) (by decide +kernel)
set_option maxRecDepth 20000 in
theorem gX1_witnessesFor_X1_witnesses : GoodIn wsX1_witnessesFor (wsV RX1 66 RX1 yX1_witnesses wsX1_witnesses) := goodIn_app (goodIn_of _ (by decide +kernel)) ggX1_witnessesFor_X1_witnesses
set_option maxRecDepth 20000 in
theorem ggX1_witnessesFor_X1_no : GoodIn wsX1_witnessesFor wsX1_no := goodIn_r _ [22, 1, 23, 24, 25, 26, 27, 28, 29, 30, 31, 32, 33, 34, 35] (by decide +kernel) (by decide +kernel)
set_option maxRecDepth 20000 in
theorem gX1_witnessesFor_X1_no : GoodIn wsX1_witnessesFor (wsV RX1 69 RX1 yX1_no wsX1_no) := goodIn_app (goodIn_of _ (by decide +kernel)) ggX1_witnessesFor_X1_no
theorem dX1_witnessesFor_0 : decode cX1_witnessesFor 0 = .ok (.aload_n 0, 1) := by decide +kernel
theorem dX1_witnessesFor_1 : decode cX1_witnessesFor 1 = .ok (.iconst 0, 1) := by decide +kernel
theorem dX1_witnessesFor_2 : decode cX1_witnessesFor 2 = .ok (.putfield 35, 3) := by decide +kernel
theorem dX1_witnessesFor_5 : decode cX1_witnessesFor 5 = .ok (.aload_n 0, 1) := by decide +kernel
theorem dX1_witnessesFor_6 : decode cX1_witnessesFor 6 = .ok (.iload_n 1, 1) := by decide +kernel
theorem dX1_witnessesFor_7 : decode cX1_witnessesFor 7 = .ok (.invokevirtual 78, 3) := by decide +kernel
theorem dX1_witnessesFor_10 : decode cX1_witnessesFor 10 = .ok (.ifCond .eq 11, 3) := by decide +kernel
theorem dX1_witnessesFor_13 : decode cX1_witnessesFor 13 = .ok (.aload_n 0, 1) := by decide +kernel
theorem dX1_witnessesFor_14 : decode cX1_witnessesFor 14 = .ok (.iload_n 1, 1) := by decide +kernel
theorem dX1_witnessesFor_15 : decode cX1_witnessesFor 15 = .ok (.invokevirtual 66, 3) := by decide +kernel
theorem dX1_witnessesFor_18 : decode cX1_witnessesFor 18 = .ok (.goto 8, 3) := by decide +kernel
theorem dX1_witnessesFor_21 : decode cX1_witnessesFor 21 = .ok (.aload_n 0, 1) := by decide +kernel
theorem dX1_witnessesFor_22 : decode cX1_witnessesFor 22 = .ok (.iconst 1, 1) := by decide +kernel
theorem dX1_witnessesFor_23 : decode cX1_witnessesFor 23 = .ok (.invokevirtual 69, 3) := by decide +kernel
theorem dX1_witnessesFor_26 : decode cX1_witnessesFor 26 = .ok (.ireturn, 1) := by decide +kernel
theorem dX1_count_0 : decode cX1_count 0 = .ok (.iconst 0, 1) := by decide +kernel
theorem dX1_count_1 : decode cX1_count 1 = .ok (.istore_n 2, 1) := by decide +kernel
theorem dX1_count_2 : decode cX1_count 2 = .ok (.iconst 0, 1) := by decide +kernel
theorem dX1_count_3 : decode cX1_count 3 = .ok (.istore_n 3, 1) := by decide +kernel
theorem dX1_count_4 : decode cX1_count 4 = .ok (.iload_n 3, 1) := by decide +kernel
theorem dX1_count_5 : decode cX1_count 5 = .ok (.aload_n 0, 1) := by decide +kernel
theorem dX1_count_6 : decode cX1_count 6 = .ok (.getfield 46, 3) := by decide +kernel
theorem dX1_count_9 : decode cX1_count 9 = .ok (.if_icmp .ge 27, 3) := by decide +kernel
theorem dX1_count_12 : decode cX1_count 12 = .ok (.iload_n 2, 1) := by decide +kernel
theorem dX1_count_13 : decode cX1_count 13 = .ok (.aload_n 0, 1) := by decide +kernel
theorem dX1_count_14 : decode cX1_count 14 = .ok (.getfield 26, 3) := by decide +kernel
theorem dX1_count_17 : decode cX1_count 17 = .ok (.iload_n 3, 1) := by decide +kernel
theorem dX1_count_18 : decode cX1_count 18 = .ok (.iaload, 1) := by decide +kernel
theorem dX1_count_19 : decode cX1_count 19 = .ok (.iload_n 1, 1) := by decide +kernel
theorem dX1_count_20 : decode cX1_count 20 = .ok (.if_icmp .ne 7, 3) := by decide +kernel
theorem dX1_count_23 : decode cX1_count 23 = .ok (.iconst 1, 1) := by decide +kernel
theorem dX1_count_24 : decode cX1_count 24 = .ok (.goto 4, 3) := by decide +kernel
theorem dX1_count_27 : decode cX1_count 27 = .ok (.iconst 0, 1) := by decide +kernel
theorem dX1_count_28 : decode cX1_count 28 = .ok (.iadd, 1) := by decide +kernel
theorem dX1_count_29 : decode cX1_count 29 = .ok (.istore_n 2, 1) := by decide +kernel
theorem dX1_count_30 : decode cX1_count 30 = .ok (.iinc 3 1, 3) := by decide +kernel
theorem dX1_count_33 : decode cX1_count 33 = .ok (.goto (-29), 3) := by decide +kernel
theorem dX1_count_36 : decode cX1_count 36 = .ok (.iload_n 2, 1) := by decide +kernel
theorem dX1_count_37 : decode cX1_count 37 = .ok (.ireturn, 1) := by decide +kernel
set_option maxRecDepth 20000 in
theorem ggX1_inState_X1_isIn : GoodIn wsX1_inState wsX1_isIn := goodIn_r _ [5] (by decide +kernel) (by decide +kernel)
set_option maxRecDepth 20000 in
theorem gX1_inState_X1_isIn : GoodIn wsX1_inState (va_wsS RX1 42 yX1_isIn wsX1_isIn) := goodIn_app (goodIn_of _ (by decide +kernel)) ggX1_inState_X1_isIn
set_option maxRecDepth 20000 in
theorem ggX1_inState_X1_count : GoodIn wsX1_inState wsX1_count := goodIn_r _ [9, 10, 11, 16, 17, 18, 19, 20, 21, 22, 23, 24, 25, 26, 27, 28] (by decide +kernel) (by decide +kernel)
set_option maxRecDepth 20000 in
theorem gX1_inState_X1_count : GoodIn wsX1_inState (wsV RX1 122 RX1 yX1_count wsX1_count) := goodIn_app (goodIn_of _ (by decide +kernel)) ggX1_inState_X1_count
set_option maxRecDepth 20000 in
theorem ggX1_inState_X1_no : GoodIn wsX1_inState wsX1_no := goodIn_r _ [15, 1, 16, 17, 18, 19, 20, 21, 22, 23, 24, 25, 26, 27, 28] (by decide +kernel) (by decide +kernel)
set_option maxRecDepth 20000 in
theorem gX1_inState_X1_no : GoodIn wsX1_inState (wsV RX1 69 RX1 yX1_no wsX1_no) := goodIn_app (goodIn_of _ (by decide +kernel)) ggX1_inState_X1_no
theorem dX1_inState_0 : decode cX1_inState 0 = .ok (.aload_n 0, 1) := by decide +kernel
theorem dX1_inState_1 : decode cX1_inState 1 = .ok (.iconst 0, 1) := by decide +kernel
theorem dX1_inState_2 : decode cX1_inState 2 = .ok (.putfield 35, 3) := by decide +kernel
theorem dX1_inState_5 : decode cX1_inState 5 = .ok (.iload_n 1, 1) := by decide +kernel
theorem dX1_inState_6 : decode cX1_inState 6 = .ok (.iconst 0, 1) := by decide +kernel
theorem dX1_inState_7 : decode cX1_inState 7 = .ok (.iconst 3, 1) := by decide +kernel
theorem dX1_inState_8 : decode cX1_inState 8 = .ok (.invokestatic 42, 3) := by decide +kernel
theorem dX1_inState_11 : decode cX1_inState 11 = .ok (.ifCond .eq 11, 3) := by decide +kernel
theorem dX1_inState_14 : decode cX1_inState 14 = .ok (.aload_n 0, 1) := by decide +kernel
theorem dX1_inState_15 : decode cX1_inState 15 = .ok (.iload_n 1, 1) := by decide +kernel
theorem dX1_inState_16 : decode cX1_inState 16 = .ok (.invokevirtual 122, 3) := by decide +kernel
theorem dX1_inState_19 : decode cX1_inState 19 = .ok (.goto 8, 3) := by decide +kernel
theorem dX1_inState_22 : decode cX1_inState 22 = .ok (.aload_n 0, 1) := by decide +kernel
theorem dX1_inState_23 : decode cX1_inState 23 = .ok (.iconst 1, 1) := by decide +kernel
theorem dX1_inState_24 : decode cX1_inState 24 = .ok (.invokevirtual 69, 3) := by decide +kernel
theorem dX1_inState_27 : decode cX1_inState 27 = .ok (.ireturn, 1) := by decide +kernel
set_option maxRecDepth 20000 in
theorem ggX1_heavy_X1_isOpen : GoodIn wsX1_heavy wsX1_isOpen := goodIn_r _ [7, 8, 9, 10, 11, 12, 13, 14, 15, 16, 17, 18, 19, 20, 21] (by decide +kernel) (by decide +kernel)
set_option maxRecDepth 20000 in
theorem gX1_heavy_X1_isOpen : GoodIn wsX1_heavy (wsV RX1 58 RX1 yX1_isOpen wsX1_isOpen) := goodIn_app (goodIn_of _ (by decide +kernel)) ggX1_heavy_X1_isOpen
theorem dX1_heavy_0 : decode cX1_heavy 0 = .ok (.iconst (-1), 1) := by decide +kernel
theorem dX1_heavy_1 : decode cX1_heavy 1 = .ok (.istore_n 1, 1) := by decide +kernel
theorem dX1_heavy_2 : decode cX1_heavy 2 = .ok (.iconst 0, 1) := by decide +kernel
theorem dX1_heavy_3 : decode cX1_heavy 3 = .ok (.istore_n 2, 1) := by decide +kernel
theorem dX1_heavy_4 : decode cX1_heavy 4 = .ok (.iload_n 2, 1) := by decide +kernel
theorem dX1_heavy_5 : decode cX1_heavy 5 = .ok (.aload_n 0, 1) := by decide +kernel
theorem dX1_heavy_6 : decode cX1_heavy 6 = .ok (.getfield 46, 3) := by decide +kernel
theorem dX1_heavy_9 : decode cX1_heavy 9 = .ok (.if_icmp .ge 39, 3) := by decide +kernel
theorem dX1_heavy_12 : decode cX1_heavy 12 = .ok (.aload_n 0, 1) := by decide +kernel
theorem dX1_heavy_13 : decode cX1_heavy 13 = .ok (.iload_n 2, 1) := by decide +kernel
theorem dX1_heavy_14 : decode cX1_heavy 14 = .ok (.invokevirtual 58, 3) := by decide +kernel
theorem dX1_heavy_17 : decode cX1_heavy 17 = .ok (.ifCond .eq 25, 3) := by decide +kernel
theorem dX1_heavy_20 : decode cX1_heavy 20 = .ok (.iload_n 1, 1) := by decide +kernel
theorem dX1_heavy_21 : decode cX1_heavy 21 = .ok (.iconst (-1), 1) := by decide +kernel
theorem dX1_heavy_22 : decode cX1_heavy 22 = .ok (.if_icmp .eq 18, 3) := by decide +kernel
theorem dX1_heavy_25 : decode cX1_heavy 25 = .ok (.aload_n 0, 1) := by decide +kernel
theorem dX1_heavy_26 : decode cX1_heavy 26 = .ok (.getfield 23, 3) := by decide +kernel
theorem dX1_heavy_29 : decode cX1_heavy 29 = .ok (.iload_n 2, 1) := by decide +kernel
theorem dX1_heavy_30 : decode cX1_heavy 30 = .ok (.iaload, 1) := by decide +kernel
theorem dX1_heavy_31 : decode cX1_heavy 31 = .ok (.aload_n 0, 1) := by decide +kernel
theorem dX1_heavy_32 : decode cX1_heavy 32 = .ok (.getfield 23, 3) := by decide +kernel
theorem dX1_heavy_35 : decode cX1_heavy 35 = .ok (.iload_n 1, 1) := by decide +kernel
theorem dX1_heavy_36 : decode cX1_heavy 36 = .ok (.iaload, 1) := by decide +kernel
theorem dX1_heavy_37 : decode cX1_heavy 37 = .ok (.if_icmp .le 5, 3) := by decide +kernel
theorem dX1_heavy_40 : decode cX1_heavy 40 = .ok (.iload_n 2, 1) := by decide +kernel
theorem dX1_heavy_41 : decode cX1_heavy 41 = .ok (.istore_n 1, 1) := by decide +kernel
theorem dX1_heavy_42 : decode cX1_heavy 42 = .ok (.iinc 2 1, 3) := by decide +kernel
theorem dX1_heavy_45 : decode cX1_heavy 45 = .ok (.goto (-41), 3) := by decide +kernel
theorem dX1_heavy_48 : decode cX1_heavy 48 = .ok (.iload_n 1, 1) := by decide +kernel
theorem dX1_heavy_49 : decode cX1_heavy 49 = .ok (.ireturn, 1) := by decide +kernel
set_option maxRecDepth 20000 in
theorem ggX1_heaviest_X1_heavy : GoodIn wsX1_heaviest wsX1_heavy := goodIn_r _ [5, 6, 7, 8, 9, 10, 4, 11, 12, 18, 19, 20, 21, 22, 23, 24, 25, 26, 27, 28, 29, 30] (by decide +kernel) (by decide +kernel)
set_option maxRecDepth 20000 in
theorem gX1_heaviest_X1_heavy : GoodIn wsX1_heaviest (wsV RX1 125 RX1 yX1_heavy wsX1_heavy) := goodIn_app (goodIn_of _ (by decide +kernel)) ggX1_heaviest_X1_heavy
set_option maxRecDepth 20000 in
theorem ggX1_heaviest_X1_ok : GoodIn wsX1_heaviest wsX1_ok := goodIn_r _ [16, 17, 18, 19, 20, 21, 22, 23, 24, 25, 26, 27, 28, 29, 30] (by decide +kernel) (by decide +kernel)
set_option maxRecDepth 20000 in
theorem gX1_heaviest_X1_ok : GoodIn wsX1_heaviest (wsV RX1 105 RX1 yX1_ok wsX1_ok) := goodIn_app (goodIn_of _ (by decide +kernel)) ggX1_heaviest_X1_ok
theorem dX1_heaviest_0 : decode cX1_heaviest 0 = .ok (.aload_n 0, 1) := by decide +kernel
theorem dX1_heaviest_1 : decode cX1_heaviest 1 = .ok (.aload_n 0, 1) := by decide +kernel
theorem dX1_heaviest_2 : decode cX1_heaviest 2 = .ok (.invokevirtual 125, 3) := by decide +kernel
theorem dX1_heaviest_5 : decode cX1_heaviest 5 = .ok (.invokevirtual 105, 3) := by decide +kernel
theorem dX1_heaviest_8 : decode cX1_heaviest 8 = .ok (.ireturn, 1) := by decide +kernel
set_option maxRecDepth 20000 in
theorem ggX1_pairs_X1_areOpposite : GoodIn wsX1_pairs wsX1_areOpposite := goodIn_r _ [6, 7, 8, 9, 10, 11, 5, 12, 13, 14, 15, 16, 17, 18, 19, 20, 21, 22, 23, 24, 25, 26] (by decide +kernel) (by decide +kernel)
set_option maxRecDepth 20000 in
theorem gX1_pairs_X1_areOpposite : GoodIn wsX1_pairs (wsV RX1 96 RX1 yX1_areOpposite wsX1_areOpposite) := goodIn_app (goodIn_of _ (by decide +kernel)) ggX1_pairs_X1_areOpposite
theorem dX1_pairs_0 : decode cX1_pairs 0 = .ok (.iconst 0, 1) := by decide +kernel
theorem dX1_pairs_1 : decode cX1_pairs 1 = .ok (.istore_n 1, 1) := by decide +kernel
theorem dX1_pairs_2 : decode cX1_pairs 2 = .ok (.iconst 0, 1) := by decide +kernel
theorem dX1_pairs_3 : decode cX1_pairs 3 = .ok (.istore_n 2, 1) := by decide +kernel
theorem dX1_pairs_4 : decode cX1_pairs 4 = .ok (.iload_n 2, 1) := by decide +kernel
theorem dX1_pairs_5 : decode cX1_pairs 5 = .ok (.aload_n 0, 1) := by decide +kernel
theorem dX1_pairs_6 : decode cX1_pairs 6 = .ok (.getfield 46, 3) := by decide +kernel
theorem dX1_pairs_9 : decode cX1_pairs 9 = .ok (.if_icmp .ge 39, 3) := by decide +kernel
theorem dX1_pairs_12 : decode cX1_pairs 12 = .ok (.iconst 0, 1) := by decide +kernel
theorem dX1_pairs_13 : decode cX1_pairs 13 = .ok (.istore_n 3, 1) := by decide +kernel
theorem dX1_pairs_14 : decode cX1_pairs 14 = .ok (.iload_n 3, 1) := by decide +kernel
theorem dX1_pairs_15 : decode cX1_pairs 15 = .ok (.iload_n 2, 1) := by decide +kernel
theorem dX1_pairs_16 : decode cX1_pairs 16 = .ok (.if_icmp .ge 26, 3) := by decide +kernel
theorem dX1_pairs_19 : decode cX1_pairs 19 = .ok (.iload_n 1, 1) := by decide +kernel
theorem dX1_pairs_20 : decode cX1_pairs 20 = .ok (.aload_n 0, 1) := by decide +kernel
theorem dX1_pairs_21 : decode cX1_pairs 21 = .ok (.iload_n 2, 1) := by decide +kernel
theorem dX1_pairs_22 : decode cX1_pairs 22 = .ok (.iload_n 3, 1) := by decide +kernel
theorem dX1_pairs_23 : decode cX1_pairs 23 = .ok (.invokevirtual 96, 3) := by decide +kernel
theorem dX1_pairs_26 : decode cX1_pairs 26 = .ok (.ifCond .eq 7, 3) := by decide +kernel
theorem dX1_pairs_29 : decode cX1_pairs 29 = .ok (.iconst 1, 1) := by decide +kernel
theorem dX1_pairs_30 : decode cX1_pairs 30 = .ok (.goto 4, 3) := by decide +kernel
theorem dX1_pairs_33 : decode cX1_pairs 33 = .ok (.iconst 0, 1) := by decide +kernel
theorem dX1_pairs_34 : decode cX1_pairs 34 = .ok (.iadd, 1) := by decide +kernel
theorem dX1_pairs_35 : decode cX1_pairs 35 = .ok (.istore_n 1, 1) := by decide +kernel
theorem dX1_pairs_36 : decode cX1_pairs 36 = .ok (.iinc 3 1, 3) := by decide +kernel
theorem dX1_pairs_39 : decode cX1_pairs 39 = .ok (.goto (-25), 3) := by decide +kernel
theorem dX1_pairs_42 : decode cX1_pairs 42 = .ok (.iinc 2 1, 3) := by decide +kernel
theorem dX1_pairs_45 : decode cX1_pairs 45 = .ok (.goto (-41), 3) := by decide +kernel
theorem dX1_pairs_48 : decode cX1_pairs 48 = .ok (.iload_n 1, 1) := by decide +kernel
theorem dX1_pairs_49 : decode cX1_pairs 49 = .ok (.ireturn, 1) := by decide +kernel
set_option maxRecDepth 20000 in
theorem ggX1_pairsToSetOff_X1_pairs : GoodIn wsX1_pairsToSetOff wsX1_pairs := goodIn_r _ [5, 6, 7, 8, 9, 4, 10, 11, 12, 13, 14, 15, 16, 17, 23, 24, 25, 26, 27, 28, 29, 30, 31, 32, 33, 34, 35] (by decide +kernel) (by decide +kernel)
set_option maxRecDepth 20000 in
theorem gX1_pairsToSetOff_X1_pairs : GoodIn wsX1_pairsToSetOff (wsV RX1 128 RX1 yX1_pairs wsX1_pairs) := goodIn_app (goodIn_of _ (by decide +kernel)) ggX1_pairsToSetOff_X1_pairs
set_option maxRecDepth 20000 in
theorem ggX1_pairsToSetOff_X1_ok : GoodIn wsX1_pairsToSetOff wsX1_ok := goodIn_r _ [21, 22, 23, 24, 25, 26, 27, 28, 29, 30, 31, 32, 33, 34, 35] (by decide +kernel) (by decide +kernel)
set_option maxRecDepth 20000 in
theorem gX1_pairsToSetOff_X1_ok : GoodIn wsX1_pairsToSetOff (wsV RX1 105 RX1 yX1_ok wsX1_ok) := goodIn_app (goodIn_of _ (by decide +kernel)) ggX1_pairsToSetOff_X1_ok
theorem dX1_pairsToSetOff_0 : decode cX1_pairsToSetOff 0 = .ok (.aload_n 0, 1) := by decide +kernel
theorem dX1_pairsToSetOff_1 : decode cX1_pairsToSetOff 1 = .ok (.aload_n 0, 1) := by decide +kernel
theorem dX1_pairsToSetOff_2 : decode cX1_pairsToSetOff 2 = .ok (.invokevirtual 128, 3) := by decide +kernel
theorem dX1_pairsToSetOff_5 : decode cX1_pairsToSetOff 5 = .ok (.invokevirtual 105, 3) := by decide +kernel
theorem dX1_pairsToSetOff_8 : decode cX1_pairsToSetOff 8 = .ok (.ireturn, 1) := by decide +kernel
set_option maxRecDepth 20000 in
theorem ggX1_wanted_X1_isOpen : GoodIn wsX1_wanted wsX1_isOpen := goodIn_r _ [12, 13, 21, 22, 23, 24, 25, 26, 27, 28, 29, 30, 31, 32, 33] (by decide +kernel) (by decide +kernel)
set_option maxRecDepth 20000 in
theorem gX1_wanted_X1_isOpen : GoodIn wsX1_wanted (wsV RX1 58 RX1 yX1_isOpen wsX1_isOpen) := goodIn_app (goodIn_of _ (by decide +kernel)) ggX1_wanted_X1_isOpen
set_option maxRecDepth 20000 in
theorem ggX1_wanted_X1_witnesses : GoodIn wsX1_wanted wsX1_witnesses := goodIn_r _ [17, 18, 19, 20, 3, 21, 22, 23, 24, 25, 26, 27, 28, 29, 30, 31, 32, 33] (by decide +kernel) (by decide +kernel)
set_option maxRecDepth 20000 in
theorem gX1_wanted_X1_witnesses : GoodIn wsX1_wanted (wsV RX1 66 RX1 yX1_witnesses wsX1_witnesses) := goodIn_app (goodIn_of _ (by decide +kernel)) ggX1_wanted_X1_witnesses
theorem dX1_wanted_0 : decode cX1_wanted 0 = .ok (.aload_n 0, 1) := by decide +kernel
theorem dX1_wanted_1 : decode cX1_wanted 1 = .ok (.iload_n 1, 1) := by decide +kernel
theorem dX1_wanted_2 : decode cX1_wanted 2 = .ok (.invokevirtual 58, 3) := by decide +kernel
theorem dX1_wanted_5 : decode cX1_wanted 5 = .ok (.ifCond .ne 5, 3) := by decide +kernel
theorem dX1_wanted_8 : decode cX1_wanted 8 = .ok (.iconst (-1), 1) := by decide +kernel
theorem dX1_wanted_9 : decode cX1_wanted 9 = .ok (.ireturn, 1) := by decide +kernel
theorem dX1_wanted_10 : decode cX1_wanted 10 = .ok (.iconst 1, 1) := by decide +kernel
theorem dX1_wanted_11 : decode cX1_wanted 11 = .ok (.aload_n 0, 1) := by decide +kernel
theorem dX1_wanted_12 : decode cX1_wanted 12 = .ok (.getfield 23, 3) := by decide +kernel
theorem dX1_wanted_15 : decode cX1_wanted 15 = .ok (.iload_n 1, 1) := by decide +kernel
theorem dX1_wanted_16 : decode cX1_wanted 16 = .ok (.iaload, 1) := by decide +kernel
theorem dX1_wanted_17 : decode cX1_wanted 17 = .ok (.aload_n 0, 1) := by decide +kernel
theorem dX1_wanted_18 : decode cX1_wanted 18 = .ok (.getfield 9, 3) := by decide +kernel
theorem dX1_wanted_21 : decode cX1_wanted 21 = .ok (.aload_n 0, 1) := by decide +kernel
theorem dX1_wanted_22 : decode cX1_wanted 22 = .ok (.getfield 20, 3) := by decide +kernel
theorem dX1_wanted_25 : decode cX1_wanted 25 = .ok (.iload_n 1, 1) := by decide +kernel
theorem dX1_wanted_26 : decode cX1_wanted 26 = .ok (.iaload, 1) := by decide +kernel
theorem dX1_wanted_27 : decode cX1_wanted 27 = .ok (.iaload, 1) := by decide +kernel
theorem dX1_wanted_28 : decode cX1_wanted 28 = .ok (.invokestatic 55, 3) := by decide +kernel
theorem dX1_wanted_31 : decode cX1_wanted 31 = .ok (.iconst 2, 1) := by decide +kernel
theorem dX1_wanted_32 : decode cX1_wanted 32 = .ok (.aload_n 0, 1) := by decide +kernel
theorem dX1_wanted_33 : decode cX1_wanted 33 = .ok (.iload_n 1, 1) := by decide +kernel
theorem dX1_wanted_34 : decode cX1_wanted 34 = .ok (.invokevirtual 66, 3) := by decide +kernel
theorem dX1_wanted_37 : decode cX1_wanted 37 = .ok (.imul, 1) := by decide +kernel
theorem dX1_wanted_38 : decode cX1_wanted 38 = .ok (.isub, 1) := by decide +kernel
theorem dX1_wanted_39 : decode cX1_wanted 39 = .ok (.invokestatic 55, 3) := by decide +kernel
theorem dX1_wanted_42 : decode cX1_wanted 42 = .ok (.istore_n 2, 1) := by decide +kernel
theorem dX1_wanted_43 : decode cX1_wanted 43 = .ok (.iload_n 2, 1) := by decide +kernel
theorem dX1_wanted_44 : decode cX1_wanted 44 = .ok (.bipush 20, 2) := by decide +kernel
theorem dX1_wanted_46 : decode cX1_wanted 46 = .ok (.if_icmp .le 7, 3) := by decide +kernel
theorem dX1_wanted_49 : decode cX1_wanted 49 = .ok (.iconst (-1), 1) := by decide +kernel
theorem dX1_wanted_50 : decode cX1_wanted 50 = .ok (.goto 4, 3) := by decide +kernel
theorem dX1_wanted_53 : decode cX1_wanted 53 = .ok (.iload_n 2, 1) := by decide +kernel
theorem dX1_wanted_54 : decode cX1_wanted 54 = .ok (.ireturn, 1) := by decide +kernel
set_option maxRecDepth 20000 in
theorem ggX1_wordsWanted_X1_isSlight : GoodIn wsX1_wordsWanted wsX1_isSlight := goodIn_r _ [6, 7, 8, 9, 5, 10, 38, 39, 40, 41, 42, 43, 44, 45, 46, 47, 48, 49, 50] (by decide +kernel) (by decide +kernel)
set_option maxRecDepth 20000 in
theorem gX1_wordsWanted_X1_isSlight : GoodIn wsX1_wordsWanted (wsV RX1 78 RX1 yX1_isSlight wsX1_isSlight) := goodIn_app (goodIn_of _ (by decide +kernel)) ggX1_wordsWanted_X1_isSlight
set_option maxRecDepth 20000 in
theorem ggX1_wordsWanted_X1_wanted : GoodIn wsX1_wordsWanted wsX1_wanted := goodIn_r _ [14, 15, 16, 17, 18, 19, 20, 21, 22, 23, 24, 5, 25, 26, 27, 28, 29, 30, 31, 32, 33, 38, 39, 40, 41, 42, 43, 44, 45, 46, 47, 48, 49, 50] (by decide +kernel) (by decide +kernel)
set_option maxRecDepth 20000 in
theorem gX1_wordsWanted_X1_wanted : GoodIn wsX1_wordsWanted (wsV RX1 131 RX1 yX1_wanted wsX1_wanted) := goodIn_app (goodIn_of _ (by decide +kernel)) ggX1_wordsWanted_X1_wanted
set_option maxRecDepth 20000 in
theorem ggX1_wordsWanted_X1_no : GoodIn wsX1_wordsWanted wsX1_no := goodIn_r _ [37, 1, 38, 39, 40, 41, 42, 43, 44, 45, 46, 47, 48, 49, 50] (by decide +kernel) (by decide +kernel)
set_option maxRecDepth 20000 in
theorem gX1_wordsWanted_X1_no : GoodIn wsX1_wordsWanted (wsV RX1 69 RX1 yX1_no wsX1_no) := goodIn_app (goodIn_of _ (by decide +kernel)) ggX1_wordsWanted_X1_no
theorem dX1_wordsWanted_0 : decode cX1_wordsWanted 0 = .ok (.aload_n 0, 1) := by decide +kernel
theorem dX1_wordsWanted_1 : decode cX1_wordsWanted 1 = .ok (.iconst 0, 1) := by decide +kernel
theorem dX1_wordsWanted_2 : decode cX1_wordsWanted 2 = .ok (.putfield 35, 3) := by decide +kernel
theorem dX1_wordsWanted_5 : decode cX1_wordsWanted 5 = .ok (.aload_n 0, 1) := by decide +kernel
theorem dX1_wordsWanted_6 : decode cX1_wordsWanted 6 = .ok (.iload_n 1, 1) := by decide +kernel
theorem dX1_wordsWanted_7 : decode cX1_wordsWanted 7 = .ok (.invokevirtual 78, 3) := by decide +kernel
theorem dX1_wordsWanted_10 : decode cX1_wordsWanted 10 = .ok (.ifCond .eq 11, 3) := by decide +kernel
theorem dX1_wordsWanted_13 : decode cX1_wordsWanted 13 = .ok (.aload_n 0, 1) := by decide +kernel
theorem dX1_wordsWanted_14 : decode cX1_wordsWanted 14 = .ok (.iload_n 1, 1) := by decide +kernel
theorem dX1_wordsWanted_15 : decode cX1_wordsWanted 15 = .ok (.invokevirtual 131, 3) := by decide +kernel
theorem dX1_wordsWanted_18 : decode cX1_wordsWanted 18 = .ok (.goto 8, 3) := by decide +kernel
theorem dX1_wordsWanted_21 : decode cX1_wordsWanted 21 = .ok (.aload_n 0, 1) := by decide +kernel
theorem dX1_wordsWanted_22 : decode cX1_wordsWanted 22 = .ok (.iconst 1, 1) := by decide +kernel
theorem dX1_wordsWanted_23 : decode cX1_wordsWanted 23 = .ok (.invokevirtual 69, 3) := by decide +kernel
theorem dX1_wordsWanted_26 : decode cX1_wordsWanted 26 = .ok (.ireturn, 1) := by decide +kernel
set_option maxRecDepth 20000 in
theorem ggX1_wouldBeScorned_X1_isSlight : GoodIn wsX1_wouldBeScorned wsX1_isSlight := goodIn_r _ [6, 7, 8, 9, 5, 10, 34, 35, 36, 37, 38, 39, 40, 41, 42, 43, 44, 45, 46] (by decide +kernel) (by decide +kernel)
set_option maxRecDepth 20000 in
theorem gX1_wouldBeScorned_X1_isSlight : GoodIn wsX1_wouldBeScorned (wsV RX1 78 RX1 yX1_isSlight wsX1_isSlight) := goodIn_app (goodIn_of _ (by decide +kernel)) ggX1_wouldBeScorned_X1_isSlight
set_option maxRecDepth 20000 in
theorem ggX1_wouldBeScorned_X1_isNot : GoodIn wsX1_wouldBeScorned wsX1_isNot := goodIn_r _ [14, 1, 34, 35, 36, 37, 38, 39, 40, 41, 42, 43, 44, 45, 46] (by decide +kernel) (by decide +kernel)
set_option maxRecDepth 20000 in
theorem gX1_wouldBeScorned_X1_isNot : GoodIn wsX1_wouldBeScorned (wsV RX1 75 RX1 yX1_isNot wsX1_isNot) := goodIn_app (goodIn_of _ (by decide +kernel)) ggX1_wouldBeScorned_X1_isNot
set_option maxRecDepth 20000 in
theorem ggX1_wouldBeScorned_X1_isIn : GoodIn wsX1_wouldBeScorned wsX1_isIn := goodIn_r _ [10] (by decide +kernel) (by decide +kernel)
set_option maxRecDepth 20000 in
theorem gX1_wouldBeScorned_X1_isIn : GoodIn wsX1_wouldBeScorned (va_wsS RX1 42 yX1_isIn wsX1_isIn) := goodIn_app (goodIn_of _ (by decide +kernel)) ggX1_wouldBeScorned_X1_isIn
set_option maxRecDepth 20000 in
theorem ggX1_wouldBeScorned_X1_isOpen : GoodIn wsX1_wouldBeScorned wsX1_isOpen := goodIn_r _ [18, 19, 34, 35, 36, 37, 38, 39, 40, 41, 42, 43, 44, 45, 46] (by decide +kernel) (by decide +kernel)
set_option maxRecDepth 20000 in
theorem gX1_wouldBeScorned_X1_isOpen : GoodIn wsX1_wouldBeScorned (wsV RX1 58 RX1 yX1_isOpen wsX1_isOpen) := goodIn_app (goodIn_of _ (by decide +kernel)) ggX1_wouldBeScorned_X1_isOpen
set_option maxRecDepth 20000 in
theorem ggX1_wouldBeScorned_X1_isScorned : GoodIn wsX1_wouldBeScorned wsX1_isScorned := goodIn_r _ [23, 24, 25, 26, 27, 28, 29, 5, 30, 31, 32, 33, 34, 35, 36, 37, 38, 39, 40, 41, 42, 43, 44, 45, 46] (by decide +kernel) (by decide +kernel)
set_option maxRecDepth 20000 in
theorem gX1_wouldBeScorned_X1_isScorned : GoodIn wsX1_wouldBeScorned (wsV RX1 85 RX1 yX1_isScorned wsX1_isScorned) := goodIn_app (goodIn_of _ (by decide +kernel)) ggX1_wouldBeScorned_X1_isScorned
theorem dX1_wouldBeScorned_0 : decode cX1_wouldBeScorned 0 = .ok (.aload_n 0, 1) := by decide +kernel
theorem dX1_wouldBeScorned_1 : decode cX1_wouldBeScorned 1 = .ok (.iconst 0, 1) := by decide +kernel
theorem dX1_wouldBeScorned_2 : decode cX1_wouldBeScorned 2 = .ok (.putfield 35, 3) := by decide +kernel
theorem dX1_wouldBeScorned_5 : decode cX1_wouldBeScorned 5 = .ok (.aload_n 0, 1) := by decide +kernel
theorem dX1_wouldBeScorned_6 : decode cX1_wouldBeScorned 6 = .ok (.iload_n 1, 1) := by decide +kernel
theorem dX1_wouldBeScorned_7 : decode cX1_wouldBeScorned 7 = .ok (.invokevirtual 78, 3) := by decide +kernel
theorem dX1_wouldBeScorned_10 : decode cX1_wouldBeScorned 10 = .ok (.ifCond .ne 9, 3) := by decide +kernel
theorem dX1_wouldBeScorned_13 : decode cX1_wouldBeScorned 13 = .ok (.aload_n 0, 1) := by decide +kernel
theorem dX1_wouldBeScorned_14 : decode cX1_wouldBeScorned 14 = .ok (.iconst 1, 1) := by decide +kernel
theorem dX1_wouldBeScorned_15 : decode cX1_wouldBeScorned 15 = .ok (.invokevirtual 75, 3) := by decide +kernel
theorem dX1_wouldBeScorned_18 : decode cX1_wouldBeScorned 18 = .ok (.ireturn, 1) := by decide +kernel
theorem dX1_wouldBeScorned_19 : decode cX1_wouldBeScorned 19 = .ok (.iload_n 2, 1) := by decide +kernel
theorem dX1_wouldBeScorned_20 : decode cX1_wouldBeScorned 20 = .ok (.iconst 1, 1) := by decide +kernel
theorem dX1_wouldBeScorned_21 : decode cX1_wouldBeScorned 21 = .ok (.bipush 20, 2) := by decide +kernel
theorem dX1_wouldBeScorned_23 : decode cX1_wouldBeScorned 23 = .ok (.invokestatic 42, 3) := by decide +kernel
theorem dX1_wouldBeScorned_26 : decode cX1_wouldBeScorned 26 = .ok (.ifCond .eq 28, 3) := by decide +kernel
theorem dX1_wouldBeScorned_29 : decode cX1_wouldBeScorned 29 = .ok (.aload_n 0, 1) := by decide +kernel
theorem dX1_wouldBeScorned_30 : decode cX1_wouldBeScorned 30 = .ok (.iload_n 1, 1) := by decide +kernel
theorem dX1_wouldBeScorned_31 : decode cX1_wouldBeScorned 31 = .ok (.invokevirtual 58, 3) := by decide +kernel
theorem dX1_wouldBeScorned_34 : decode cX1_wouldBeScorned 34 = .ok (.ifCond .eq 16, 3) := by decide +kernel
theorem dX1_wouldBeScorned_37 : decode cX1_wouldBeScorned 37 = .ok (.aload_n 0, 1) := by decide +kernel
theorem dX1_wouldBeScorned_38 : decode cX1_wouldBeScorned 38 = .ok (.iload_n 1, 1) := by decide +kernel
theorem dX1_wouldBeScorned_39 : decode cX1_wouldBeScorned 39 = .ok (.iload_n 2, 1) := by decide +kernel
theorem dX1_wouldBeScorned_40 : decode cX1_wouldBeScorned 40 = .ok (.invokevirtual 85, 3) := by decide +kernel
theorem dX1_wouldBeScorned_43 : decode cX1_wouldBeScorned 43 = .ok (.ifCond .eq 7, 3) := by decide +kernel
theorem dX1_wouldBeScorned_46 : decode cX1_wouldBeScorned 46 = .ok (.iconst 1, 1) := by decide +kernel
theorem dX1_wouldBeScorned_47 : decode cX1_wouldBeScorned 47 = .ok (.goto 12, 3) := by decide +kernel
theorem dX1_wouldBeScorned_50 : decode cX1_wouldBeScorned 50 = .ok (.iconst 0, 1) := by decide +kernel
theorem dX1_wouldBeScorned_51 : decode cX1_wouldBeScorned 51 = .ok (.goto 8, 3) := by decide +kernel
theorem dX1_wouldBeScorned_54 : decode cX1_wouldBeScorned 54 = .ok (.aload_n 0, 1) := by decide +kernel
theorem dX1_wouldBeScorned_55 : decode cX1_wouldBeScorned 55 = .ok (.iconst 2, 1) := by decide +kernel
theorem dX1_wouldBeScorned_56 : decode cX1_wouldBeScorned 56 = .ok (.invokevirtual 75, 3) := by decide +kernel
theorem dX1_wouldBeScorned_59 : decode cX1_wouldBeScorned 59 = .ok (.ireturn, 1) := by decide +kernel
set_option maxRecDepth 20000 in
theorem ggX1_weightIn_X1_isSlight : GoodIn wsX1_weightIn wsX1_isSlight := goodIn_r _ [6, 7, 8, 9, 5, 10, 37, 38, 39, 40, 41, 42, 43, 44, 45, 46, 47, 48, 49] (by decide +kernel) (by decide +kernel)
set_option maxRecDepth 20000 in
theorem gX1_weightIn_X1_isSlight : GoodIn wsX1_weightIn (wsV RX1 78 RX1 yX1_isSlight wsX1_isSlight) := goodIn_app (goodIn_of _ (by decide +kernel)) ggX1_weightIn_X1_isSlight
set_option maxRecDepth 20000 in
theorem ggX1_weightIn_X1_no : GoodIn wsX1_weightIn wsX1_no := goodIn_r _ [14, 1, 37, 38, 39, 40, 41, 42, 43, 44, 45, 46, 47, 48, 49] (by decide +kernel) (by decide +kernel)
set_option maxRecDepth 20000 in
theorem gX1_weightIn_X1_no : GoodIn wsX1_weightIn (wsV RX1 69 RX1 yX1_no wsX1_no) := goodIn_app (goodIn_of _ (by decide +kernel)) ggX1_weightIn_X1_no
set_option maxRecDepth 20000 in
theorem ggX1_weightIn_X1_isIn : GoodIn wsX1_weightIn wsX1_isIn := goodIn_r _ [10] (by decide +kernel) (by decide +kernel)
set_option maxRecDepth 20000 in
theorem gX1_weightIn_X1_isIn : GoodIn wsX1_weightIn (va_wsS RX1 42 yX1_isIn wsX1_isIn) := goodIn_app (goodIn_of _ (by decide +kernel)) ggX1_weightIn_X1_isIn
set_option maxRecDepth 20000 in
theorem ggX1_weightIn_X1_later : GoodIn wsX1_weightIn wsX1_later := goodIn_r _ [18, 19, 20, 21, 22, 23, 24, 5, 25, 26, 27, 28, 29, 30, 31, 32, 33, 34, 35, 36, 37, 38, 39, 40, 41, 42, 43, 44, 45, 46, 47, 48, 49] (by decide +kernel) (by decide +kernel)
set_option maxRecDepth 20000 in
theorem gX1_weightIn_X1_later : GoodIn wsX1_weightIn (wsV RX1 99 RX1 yX1_later wsX1_later) := goodIn_app (goodIn_of _ (by decide +kernel)) ggX1_weightIn_X1_later
theorem dX1_weightIn_0 : decode cX1_weightIn 0 = .ok (.aload_n 0, 1) := by decide +kernel
theorem dX1_weightIn_1 : decode cX1_weightIn 1 = .ok (.iconst 0, 1) := by decide +kernel
theorem dX1_weightIn_2 : decode cX1_weightIn 2 = .ok (.putfield 35, 3) := by decide +kernel
theorem dX1_weightIn_5 : decode cX1_weightIn 5 = .ok (.aload_n 0, 1) := by decide +kernel
theorem dX1_weightIn_6 : decode cX1_weightIn 6 = .ok (.iload_n 1, 1) := by decide +kernel
theorem dX1_weightIn_7 : decode cX1_weightIn 7 = .ok (.invokevirtual 78, 3) := by decide +kernel
theorem dX1_weightIn_10 : decode cX1_weightIn 10 = .ok (.ifCond .ne 9, 3) := by decide +kernel
theorem dX1_weightIn_13 : decode cX1_weightIn 13 = .ok (.aload_n 0, 1) := by decide +kernel
theorem dX1_weightIn_14 : decode cX1_weightIn 14 = .ok (.iconst 1, 1) := by decide +kernel
theorem dX1_weightIn_15 : decode cX1_weightIn 15 = .ok (.invokevirtual 69, 3) := by decide +kernel
theorem dX1_weightIn_18 : decode cX1_weightIn 18 = .ok (.ireturn, 1) := by decide +kernel
theorem dX1_weightIn_19 : decode cX1_weightIn 19 = .ok (.iload_n 2, 1) := by decide +kernel
theorem dX1_weightIn_20 : decode cX1_weightIn 20 = .ok (.iconst 1, 1) := by decide +kernel
theorem dX1_weightIn_21 : decode cX1_weightIn 21 = .ok (.bipush 60, 2) := by decide +kernel
theorem dX1_weightIn_23 : decode cX1_weightIn 23 = .ok (.invokestatic 42, 3) := by decide +kernel
theorem dX1_weightIn_26 : decode cX1_weightIn 26 = .ok (.ifCond .eq 12, 3) := by decide +kernel
theorem dX1_weightIn_29 : decode cX1_weightIn 29 = .ok (.aload_n 0, 1) := by decide +kernel
theorem dX1_weightIn_30 : decode cX1_weightIn 30 = .ok (.iload_n 1, 1) := by decide +kernel
theorem dX1_weightIn_31 : decode cX1_weightIn 31 = .ok (.iload_n 2, 1) := by decide +kernel
theorem dX1_weightIn_32 : decode cX1_weightIn 32 = .ok (.invokevirtual 99, 3) := by decide +kernel
theorem dX1_weightIn_35 : decode cX1_weightIn 35 = .ok (.goto 8, 3) := by decide +kernel
theorem dX1_weightIn_38 : decode cX1_weightIn 38 = .ok (.aload_n 0, 1) := by decide +kernel
theorem dX1_weightIn_39 : decode cX1_weightIn 39 = .ok (.iconst 2, 1) := by decide +kernel
theorem dX1_weightIn_40 : decode cX1_weightIn 40 = .ok (.invokevirtual 69, 3) := by decide +kernel
theorem dX1_weightIn_43 : decode cX1_weightIn 43 = .ok (.ireturn, 1) := by decide +kernel
set_option maxRecDepth 20000 in
theorem ggX1_until_X1_isOpen : GoodIn wsX1_until wsX1_isOpen := goodIn_r _ [6, 7, 8, 9, 10, 11, 12, 13, 14, 15, 16, 17, 18, 19, 20] (by decide +kernel) (by decide +kernel)
set_option maxRecDepth 20000 in
theorem gX1_until_X1_isOpen : GoodIn wsX1_until (wsV RX1 58 RX1 yX1_isOpen wsX1_isOpen) := goodIn_app (goodIn_of _ (by decide +kernel)) ggX1_until_X1_isOpen
theorem dX1_until_0 : decode cX1_until 0 = .ok (.aload_n 0, 1) := by decide +kernel
theorem dX1_until_1 : decode cX1_until 1 = .ok (.iload_n 1, 1) := by decide +kernel
theorem dX1_until_2 : decode cX1_until 2 = .ok (.invokevirtual 58, 3) := by decide +kernel
theorem dX1_until_5 : decode cX1_until 5 = .ok (.ifCond .eq 15, 3) := by decide +kernel
theorem dX1_until_8 : decode cX1_until 8 = .ok (.bipush 30, 2) := by decide +kernel
theorem dX1_until_10 : decode cX1_until 10 = .ok (.aload_n 0, 1) := by decide +kernel
theorem dX1_until_11 : decode cX1_until 11 = .ok (.getfield 32, 3) := by decide +kernel
theorem dX1_until_14 : decode cX1_until 14 = .ok (.iload_n 1, 1) := by decide +kernel
theorem dX1_until_15 : decode cX1_until 15 = .ok (.iaload, 1) := by decide +kernel
theorem dX1_until_16 : decode cX1_until 16 = .ok (.isub, 1) := by decide +kernel
theorem dX1_until_17 : decode cX1_until 17 = .ok (.goto 4, 3) := by decide +kernel
theorem dX1_until_20 : decode cX1_until 20 = .ok (.iconst (-1), 1) := by decide +kernel
theorem dX1_until_21 : decode cX1_until 21 = .ok (.ireturn, 1) := by decide +kernel
set_option maxRecDepth 20000 in
theorem ggX1_daysUntilForgotten_X1_isSlight : GoodIn wsX1_daysUntilForgotten wsX1_isSlight := goodIn_r _ [6, 7, 8, 9, 5, 10, 25, 26, 27, 28, 29, 30, 31, 32, 33, 34, 35, 36, 37] (by decide +kernel) (by decide +kernel)
set_option maxRecDepth 20000 in
theorem gX1_daysUntilForgotten_X1_isSlight : GoodIn wsX1_daysUntilForgotten (wsV RX1 78 RX1 yX1_isSlight wsX1_isSlight) := goodIn_app (goodIn_of _ (by decide +kernel)) ggX1_daysUntilForgotten_X1_isSlight
set_option maxRecDepth 20000 in
theorem ggX1_daysUntilForgotten_X1_until : GoodIn wsX1_daysUntilForgotten wsX1_until := goodIn_r _ [14, 15, 16, 17, 18, 5, 19, 20, 25, 26, 27, 28, 29, 30, 31, 32, 33, 34, 35, 36, 37] (by decide +kernel) (by decide +kernel)
set_option maxRecDepth 20000 in
theorem gX1_daysUntilForgotten_X1_until : GoodIn wsX1_daysUntilForgotten (wsV RX1 134 RX1 yX1_until wsX1_until) := goodIn_app (goodIn_of _ (by decide +kernel)) ggX1_daysUntilForgotten_X1_until
set_option maxRecDepth 20000 in
theorem ggX1_daysUntilForgotten_X1_no : GoodIn wsX1_daysUntilForgotten wsX1_no := goodIn_r _ [24, 1, 25, 26, 27, 28, 29, 30, 31, 32, 33, 34, 35, 36, 37] (by decide +kernel) (by decide +kernel)
set_option maxRecDepth 20000 in
theorem gX1_daysUntilForgotten_X1_no : GoodIn wsX1_daysUntilForgotten (wsV RX1 69 RX1 yX1_no wsX1_no) := goodIn_app (goodIn_of _ (by decide +kernel)) ggX1_daysUntilForgotten_X1_no
theorem dX1_daysUntilForgotten_0 : decode cX1_daysUntilForgotten 0 = .ok (.aload_n 0, 1) := by decide +kernel
theorem dX1_daysUntilForgotten_1 : decode cX1_daysUntilForgotten 1 = .ok (.iconst 0, 1) := by decide +kernel
theorem dX1_daysUntilForgotten_2 : decode cX1_daysUntilForgotten 2 = .ok (.putfield 35, 3) := by decide +kernel
theorem dX1_daysUntilForgotten_5 : decode cX1_daysUntilForgotten 5 = .ok (.aload_n 0, 1) := by decide +kernel
theorem dX1_daysUntilForgotten_6 : decode cX1_daysUntilForgotten 6 = .ok (.iload_n 1, 1) := by decide +kernel
theorem dX1_daysUntilForgotten_7 : decode cX1_daysUntilForgotten 7 = .ok (.invokevirtual 78, 3) := by decide +kernel
theorem dX1_daysUntilForgotten_10 : decode cX1_daysUntilForgotten 10 = .ok (.ifCond .eq 11, 3) := by decide +kernel
theorem dX1_daysUntilForgotten_13 : decode cX1_daysUntilForgotten 13 = .ok (.aload_n 0, 1) := by decide +kernel
theorem dX1_daysUntilForgotten_14 : decode cX1_daysUntilForgotten 14 = .ok (.iload_n 1, 1) := by decide +kernel
theorem dX1_daysUntilForgotten_15 : decode cX1_daysUntilForgotten 15 = .ok (.invokevirtual 134, 3) := by decide +kernel
theorem dX1_daysUntilForgotten_18 : decode cX1_daysUntilForgotten 18 = .ok (.goto 8, 3) := by decide +kernel
theorem dX1_daysUntilForgotten_21 : decode cX1_daysUntilForgotten 21 = .ok (.aload_n 0, 1) := by decide +kernel
theorem dX1_daysUntilForgotten_22 : decode cX1_daysUntilForgotten 22 = .ok (.iconst 1, 1) := by decide +kernel
theorem dX1_daysUntilForgotten_23 : decode cX1_daysUntilForgotten 23 = .ok (.invokevirtual 69, 3) := by decide +kernel
theorem dX1_daysUntilForgotten_26 : decode cX1_daysUntilForgotten 26 = .ok (.ireturn, 1) := by decide +kernel
set_option maxRecDepth 20000 in
theorem ggX1_borneThen_X1_later : GoodIn wsX1_borneThen wsX1_later := goodIn_r _ [7, 8, 9, 10, 11, 12, 13, 6, 14, 15, 16, 17, 18, 19, 20, 21, 22, 23, 24, 25, 26, 27, 28, 29, 30, 31, 32, 33, 34, 35, 36, 37, 38] (by decide +kernel) (by decide +kernel)
set_option maxRecDepth 20000 in
theorem gX1_borneThen_X1_later : GoodIn wsX1_borneThen (wsV RX1 99 RX1 yX1_later wsX1_later) := goodIn_app (goodIn_of _ (by decide +kernel)) ggX1_borneThen_X1_later
theorem dX1_borneThen_0 : decode cX1_borneThen 0 = .ok (.iconst 0, 1) := by decide +kernel
theorem dX1_borneThen_1 : decode cX1_borneThen 1 = .ok (.istore_n 3, 1) := by decide +kernel
theorem dX1_borneThen_2 : decode cX1_borneThen 2 = .ok (.iconst 0, 1) := by decide +kernel
theorem dX1_borneThen_3 : decode cX1_borneThen 3 = .ok (.istore 4, 2) := by decide +kernel
theorem dX1_borneThen_5 : decode cX1_borneThen 5 = .ok (.iload 4, 2) := by decide +kernel
theorem dX1_borneThen_7 : decode cX1_borneThen 7 = .ok (.aload_n 0, 1) := by decide +kernel
theorem dX1_borneThen_8 : decode cX1_borneThen 8 = .ok (.getfield 46, 3) := by decide +kernel
theorem dX1_borneThen_11 : decode cX1_borneThen 11 = .ok (.if_icmp .ge 34, 3) := by decide +kernel
theorem dX1_borneThen_14 : decode cX1_borneThen 14 = .ok (.iload_n 3, 1) := by decide +kernel
theorem dX1_borneThen_15 : decode cX1_borneThen 15 = .ok (.aload_n 0, 1) := by decide +kernel
theorem dX1_borneThen_16 : decode cX1_borneThen 16 = .ok (.getfield 20, 3) := by decide +kernel
theorem dX1_borneThen_19 : decode cX1_borneThen 19 = .ok (.iload 4, 2) := by decide +kernel
theorem dX1_borneThen_21 : decode cX1_borneThen 21 = .ok (.iaload, 1) := by decide +kernel
theorem dX1_borneThen_22 : decode cX1_borneThen 22 = .ok (.iload_n 1, 1) := by decide +kernel
theorem dX1_borneThen_23 : decode cX1_borneThen 23 = .ok (.if_icmp .ne 13, 3) := by decide +kernel
theorem dX1_borneThen_26 : decode cX1_borneThen 26 = .ok (.aload_n 0, 1) := by decide +kernel
theorem dX1_borneThen_27 : decode cX1_borneThen 27 = .ok (.iload 4, 2) := by decide +kernel
theorem dX1_borneThen_29 : decode cX1_borneThen 29 = .ok (.iload_n 2, 1) := by decide +kernel
theorem dX1_borneThen_30 : decode cX1_borneThen 30 = .ok (.invokevirtual 99, 3) := by decide +kernel
theorem dX1_borneThen_33 : decode cX1_borneThen 33 = .ok (.goto 4, 3) := by decide +kernel
theorem dX1_borneThen_36 : decode cX1_borneThen 36 = .ok (.iconst 0, 1) := by decide +kernel
theorem dX1_borneThen_37 : decode cX1_borneThen 37 = .ok (.iadd, 1) := by decide +kernel
theorem dX1_borneThen_38 : decode cX1_borneThen 38 = .ok (.istore_n 3, 1) := by decide +kernel
theorem dX1_borneThen_39 : decode cX1_borneThen 39 = .ok (.iinc 4 1, 3) := by decide +kernel
theorem dX1_borneThen_42 : decode cX1_borneThen 42 = .ok (.goto (-37), 3) := by decide +kernel
theorem dX1_borneThen_45 : decode cX1_borneThen 45 = .ok (.iload_n 3, 1) := by decide +kernel
theorem dX1_borneThen_46 : decode cX1_borneThen 46 = .ok (.ireturn, 1) := by decide +kernel
set_option maxRecDepth 20000 in
theorem ggX1_borneIn_X1_isPerson : GoodIn wsX1_borneIn wsX1_isPerson := goodIn_r _ [6, 7, 8, 9, 5, 10, 43, 44, 45, 46, 47, 48, 49, 50, 51, 52, 53, 54, 55] (by decide +kernel) (by decide +kernel)
set_option maxRecDepth 20000 in
theorem gX1_borneIn_X1_isPerson : GoodIn wsX1_borneIn (wsV RX1 72 RX1 yX1_isPerson wsX1_isPerson) := goodIn_app (goodIn_of _ (by decide +kernel)) ggX1_borneIn_X1_isPerson
set_option maxRecDepth 20000 in
theorem ggX1_borneIn_X1_no : GoodIn wsX1_borneIn wsX1_no := goodIn_r _ [14, 1, 43, 44, 45, 46, 47, 48, 49, 50, 51, 52, 53, 54, 55] (by decide +kernel) (by decide +kernel)
set_option maxRecDepth 20000 in
theorem gX1_borneIn_X1_no : GoodIn wsX1_borneIn (wsV RX1 69 RX1 yX1_no wsX1_no) := goodIn_app (goodIn_of _ (by decide +kernel)) ggX1_borneIn_X1_no
set_option maxRecDepth 20000 in
theorem ggX1_borneIn_X1_isIn : GoodIn wsX1_borneIn wsX1_isIn := goodIn_r _ [10] (by decide +kernel) (by decide +kernel)
set_option maxRecDepth 20000 in
theorem gX1_borneIn_X1_isIn : GoodIn wsX1_borneIn (va_wsS RX1 42 yX1_isIn wsX1_isIn) := goodIn_app (goodIn_of _ (by decide +kernel)) ggX1_borneIn_X1_isIn
set_option maxRecDepth 20000 in
theorem ggX1_borneIn_X1_borneThen : GoodIn wsX1_borneIn wsX1_borneThen := goodIn_r _ [18, 19, 20, 21, 22, 23, 5, 24, 25, 26, 27, 28, 29, 30, 31, 32, 33, 34, 35, 36, 37, 38, 39, 40, 41, 42, 43, 44, 45, 46, 47, 48, 49, 50, 51, 52, 53, 54, 55] (by decide +kernel) (by decide +kernel)
set_option maxRecDepth 20000 in
theorem gX1_borneIn_X1_borneThen : GoodIn wsX1_borneIn (wsV RX1 137 RX1 yX1_borneThen wsX1_borneThen) := goodIn_app (goodIn_of _ (by decide +kernel)) ggX1_borneIn_X1_borneThen
theorem dX1_borneIn_0 : decode cX1_borneIn 0 = .ok (.aload_n 0, 1) := by decide +kernel
theorem dX1_borneIn_1 : decode cX1_borneIn 1 = .ok (.iconst 0, 1) := by decide +kernel
theorem dX1_borneIn_2 : decode cX1_borneIn 2 = .ok (.putfield 35, 3) := by decide +kernel
theorem dX1_borneIn_5 : decode cX1_borneIn 5 = .ok (.aload_n 0, 1) := by decide +kernel
theorem dX1_borneIn_6 : decode cX1_borneIn 6 = .ok (.iload_n 1, 1) := by decide +kernel
theorem dX1_borneIn_7 : decode cX1_borneIn 7 = .ok (.invokevirtual 72, 3) := by decide +kernel
theorem dX1_borneIn_10 : decode cX1_borneIn 10 = .ok (.ifCond .ne 9, 3) := by decide +kernel
theorem dX1_borneIn_13 : decode cX1_borneIn 13 = .ok (.aload_n 0, 1) := by decide +kernel
theorem dX1_borneIn_14 : decode cX1_borneIn 14 = .ok (.iconst 1, 1) := by decide +kernel
theorem dX1_borneIn_15 : decode cX1_borneIn 15 = .ok (.invokevirtual 69, 3) := by decide +kernel
theorem dX1_borneIn_18 : decode cX1_borneIn 18 = .ok (.ireturn, 1) := by decide +kernel
theorem dX1_borneIn_19 : decode cX1_borneIn 19 = .ok (.iload_n 2, 1) := by decide +kernel
theorem dX1_borneIn_20 : decode cX1_borneIn 20 = .ok (.iconst 1, 1) := by decide +kernel
theorem dX1_borneIn_21 : decode cX1_borneIn 21 = .ok (.bipush 60, 2) := by decide +kernel
theorem dX1_borneIn_23 : decode cX1_borneIn 23 = .ok (.invokestatic 42, 3) := by decide +kernel
theorem dX1_borneIn_26 : decode cX1_borneIn 26 = .ok (.ifCond .eq 12, 3) := by decide +kernel
theorem dX1_borneIn_29 : decode cX1_borneIn 29 = .ok (.aload_n 0, 1) := by decide +kernel
theorem dX1_borneIn_30 : decode cX1_borneIn 30 = .ok (.iload_n 1, 1) := by decide +kernel
theorem dX1_borneIn_31 : decode cX1_borneIn 31 = .ok (.iload_n 2, 1) := by decide +kernel
theorem dX1_borneIn_32 : decode cX1_borneIn 32 = .ok (.invokevirtual 137, 3) := by decide +kernel
theorem dX1_borneIn_35 : decode cX1_borneIn 35 = .ok (.goto 8, 3) := by decide +kernel
theorem dX1_borneIn_38 : decode cX1_borneIn 38 = .ok (.aload_n 0, 1) := by decide +kernel
theorem dX1_borneIn_39 : decode cX1_borneIn 39 = .ok (.iconst 2, 1) := by decide +kernel
theorem dX1_borneIn_40 : decode cX1_borneIn 40 = .ok (.invokevirtual 69, 3) := by decide +kernel
theorem dX1_borneIn_43 : decode cX1_borneIn 43 = .ok (.ireturn, 1) := by decide +kernel
set_option maxRecDepth 20000 in
theorem ggX1_worst_X1_isOpen : GoodIn wsX1_worst wsX1_isOpen := goodIn_r _ [8, 9, 26, 27, 28, 29, 30, 31, 32, 33, 34, 35, 36, 37, 38] (by decide +kernel) (by decide +kernel)
set_option maxRecDepth 20000 in
theorem gX1_worst_X1_isOpen : GoodIn wsX1_worst (wsV RX1 58 RX1 yX1_isOpen wsX1_isOpen) := goodIn_app (goodIn_of _ (by decide +kernel)) ggX1_worst_X1_isOpen
set_option maxRecDepth 20000 in
theorem ggX1_worst_X1_later : GoodIn wsX1_worst wsX1_later := goodIn_r _ [13, 14, 3, 15, 4, 5, 6, 7, 8, 9, 16, 17, 18, 19, 20, 21, 22, 23, 24, 25, 26, 27, 28, 29, 30, 31, 32, 33, 34, 35, 36, 37, 38] (by decide +kernel) (by decide +kernel)
set_option maxRecDepth 20000 in
theorem gX1_worst_X1_later : GoodIn wsX1_worst (wsV RX1 99 RX1 yX1_later wsX1_later) := goodIn_app (goodIn_of _ (by decide +kernel)) ggX1_worst_X1_later
theorem dX1_worst_0 : decode cX1_worst 0 = .ok (.iconst (-1), 1) := by decide +kernel
theorem dX1_worst_1 : decode cX1_worst 1 = .ok (.istore_n 2, 1) := by decide +kernel
theorem dX1_worst_2 : decode cX1_worst 2 = .ok (.iconst 0, 1) := by decide +kernel
theorem dX1_worst_3 : decode cX1_worst 3 = .ok (.istore_n 3, 1) := by decide +kernel
theorem dX1_worst_4 : decode cX1_worst 4 = .ok (.iconst 0, 1) := by decide +kernel
theorem dX1_worst_5 : decode cX1_worst 5 = .ok (.istore 4, 2) := by decide +kernel
theorem dX1_worst_7 : decode cX1_worst 7 = .ok (.iload 4, 2) := by decide +kernel
theorem dX1_worst_9 : decode cX1_worst 9 = .ok (.aload_n 0, 1) := by decide +kernel
theorem dX1_worst_10 : decode cX1_worst 10 = .ok (.getfield 46, 3) := by decide +kernel
theorem dX1_worst_13 : decode cX1_worst 13 = .ok (.if_icmp .ge 70, 3) := by decide +kernel
theorem dX1_worst_16 : decode cX1_worst 16 = .ok (.aload_n 0, 1) := by decide +kernel
theorem dX1_worst_17 : decode cX1_worst 17 = .ok (.iload 4, 2) := by decide +kernel
theorem dX1_worst_19 : decode cX1_worst 19 = .ok (.invokevirtual 58, 3) := by decide +kernel
theorem dX1_worst_22 : decode cX1_worst 22 = .ok (.ifCond .eq 55, 3) := by decide +kernel
theorem dX1_worst_25 : decode cX1_worst 25 = .ok (.aload_n 0, 1) := by decide +kernel
theorem dX1_worst_26 : decode cX1_worst 26 = .ok (.getfield 17, 3) := by decide +kernel
theorem dX1_worst_29 : decode cX1_worst 29 = .ok (.iload 4, 2) := by decide +kernel
theorem dX1_worst_31 : decode cX1_worst 31 = .ok (.iaload, 1) := by decide +kernel
theorem dX1_worst_32 : decode cX1_worst 32 = .ok (.iload_n 1, 1) := by decide +kernel
theorem dX1_worst_33 : decode cX1_worst 33 = .ok (.if_icmp .eq 6, 3) := by decide +kernel
theorem dX1_worst_36 : decode cX1_worst 36 = .ok (.goto 41, 3) := by decide +kernel
theorem dX1_worst_39 : decode cX1_worst 39 = .ok (.aload_n 0, 1) := by decide +kernel
theorem dX1_worst_40 : decode cX1_worst 40 = .ok (.iload 4, 2) := by decide +kernel
theorem dX1_worst_42 : decode cX1_worst 42 = .ok (.bipush 20, 2) := by decide +kernel
theorem dX1_worst_44 : decode cX1_worst 44 = .ok (.invokevirtual 99, 3) := by decide +kernel
theorem dX1_worst_47 : decode cX1_worst 47 = .ok (.aload_n 0, 1) := by decide +kernel
theorem dX1_worst_48 : decode cX1_worst 48 = .ok (.getfield 23, 3) := by decide +kernel
theorem dX1_worst_51 : decode cX1_worst 51 = .ok (.iload 4, 2) := by decide +kernel
theorem dX1_worst_53 : decode cX1_worst 53 = .ok (.iaload, 1) := by decide +kernel
theorem dX1_worst_54 : decode cX1_worst 54 = .ok (.isub, 1) := by decide +kernel
theorem dX1_worst_55 : decode cX1_worst 55 = .ok (.istore 5, 2) := by decide +kernel
theorem dX1_worst_57 : decode cX1_worst 57 = .ok (.iload_n 2, 1) := by decide +kernel
theorem dX1_worst_58 : decode cX1_worst 58 = .ok (.iconst (-1), 1) := by decide +kernel
theorem dX1_worst_59 : decode cX1_worst 59 = .ok (.if_icmp .eq 12, 3) := by decide +kernel
theorem dX1_worst_62 : decode cX1_worst 62 = .ok (.iload 5, 2) := by decide +kernel
theorem dX1_worst_64 : decode cX1_worst 64 = .ok (.iload_n 3, 1) := by decide +kernel
theorem dX1_worst_65 : decode cX1_worst 65 = .ok (.if_icmp .gt 6, 3) := by decide +kernel
theorem dX1_worst_68 : decode cX1_worst 68 = .ok (.goto 9, 3) := by decide +kernel
theorem dX1_worst_71 : decode cX1_worst 71 = .ok (.iload 4, 2) := by decide +kernel
theorem dX1_worst_73 : decode cX1_worst 73 = .ok (.istore_n 2, 1) := by decide +kernel
theorem dX1_worst_74 : decode cX1_worst 74 = .ok (.iload 5, 2) := by decide +kernel
theorem dX1_worst_76 : decode cX1_worst 76 = .ok (.istore_n 3, 1) := by decide +kernel
theorem dX1_worst_77 : decode cX1_worst 77 = .ok (.iinc 4 1, 3) := by decide +kernel
theorem dX1_worst_80 : decode cX1_worst 80 = .ok (.goto (-73), 3) := by decide +kernel
theorem dX1_worst_83 : decode cX1_worst 83 = .ok (.iload_n 2, 1) := by decide +kernel
theorem dX1_worst_84 : decode cX1_worst 84 = .ok (.ireturn, 1) := by decide +kernel
set_option maxRecDepth 20000 in
theorem ggX1_worstToKeep_X1_isPerson : GoodIn wsX1_worstToKeep wsX1_isPerson := goodIn_r _ [6, 7, 8, 9, 5, 10, 43, 44, 45, 46, 47, 48, 49, 50, 51, 52, 53, 54, 55] (by decide +kernel) (by decide +kernel)
set_option maxRecDepth 20000 in
theorem gX1_worstToKeep_X1_isPerson : GoodIn wsX1_worstToKeep (wsV RX1 72 RX1 yX1_isPerson wsX1_isPerson) := goodIn_app (goodIn_of _ (by decide +kernel)) ggX1_worstToKeep_X1_isPerson
set_option maxRecDepth 20000 in
theorem ggX1_worstToKeep_X1_worst : GoodIn wsX1_worstToKeep wsX1_worst := goodIn_r _ [14, 15, 16, 17, 18, 19, 20, 5, 21, 22, 23, 24, 25, 26, 27, 28, 29, 30, 31, 32, 33, 34, 35, 36, 37, 38, 43, 44, 45, 46, 47, 48, 49, 50, 51, 52, 53, 54, 55] (by decide +kernel) (by decide +kernel)
set_option maxRecDepth 20000 in
theorem gX1_worstToKeep_X1_worst : GoodIn wsX1_worstToKeep (wsV RX1 140 RX1 yX1_worst wsX1_worst) := goodIn_app (goodIn_of _ (by decide +kernel)) ggX1_worstToKeep_X1_worst
set_option maxRecDepth 20000 in
theorem ggX1_worstToKeep_X1_no : GoodIn wsX1_worstToKeep wsX1_no := goodIn_r _ [42, 1, 43, 44, 45, 46, 47, 48, 49, 50, 51, 52, 53, 54, 55] (by decide +kernel) (by decide +kernel)
set_option maxRecDepth 20000 in
theorem gX1_worstToKeep_X1_no : GoodIn wsX1_worstToKeep (wsV RX1 69 RX1 yX1_no wsX1_no) := goodIn_app (goodIn_of _ (by decide +kernel)) ggX1_worstToKeep_X1_no
theorem dX1_worstToKeep_0 : decode cX1_worstToKeep 0 = .ok (.aload_n 0, 1) := by decide +kernel
theorem dX1_worstToKeep_1 : decode cX1_worstToKeep 1 = .ok (.iconst 0, 1) := by decide +kernel
theorem dX1_worstToKeep_2 : decode cX1_worstToKeep 2 = .ok (.putfield 35, 3) := by decide +kernel
theorem dX1_worstToKeep_5 : decode cX1_worstToKeep 5 = .ok (.aload_n 0, 1) := by decide +kernel
theorem dX1_worstToKeep_6 : decode cX1_worstToKeep 6 = .ok (.iload_n 1, 1) := by decide +kernel
theorem dX1_worstToKeep_7 : decode cX1_worstToKeep 7 = .ok (.invokevirtual 72, 3) := by decide +kernel
theorem dX1_worstToKeep_10 : decode cX1_worstToKeep 10 = .ok (.ifCond .eq 11, 3) := by decide +kernel
theorem dX1_worstToKeep_13 : decode cX1_worstToKeep 13 = .ok (.aload_n 0, 1) := by decide +kernel
theorem dX1_worstToKeep_14 : decode cX1_worstToKeep 14 = .ok (.iload_n 1, 1) := by decide +kernel
theorem dX1_worstToKeep_15 : decode cX1_worstToKeep 15 = .ok (.invokevirtual 140, 3) := by decide +kernel
theorem dX1_worstToKeep_18 : decode cX1_worstToKeep 18 = .ok (.goto 8, 3) := by decide +kernel
theorem dX1_worstToKeep_21 : decode cX1_worstToKeep 21 = .ok (.aload_n 0, 1) := by decide +kernel
theorem dX1_worstToKeep_22 : decode cX1_worstToKeep 22 = .ok (.iconst 1, 1) := by decide +kernel
theorem dX1_worstToKeep_23 : decode cX1_worstToKeep 23 = .ok (.invokevirtual 69, 3) := by decide +kernel
theorem dX1_worstToKeep_26 : decode cX1_worstToKeep 26 = .ok (.ireturn, 1) := by decide +kernel
set_option maxRecDepth 20000 in
theorem ggX1_meanWeight_X1_count : GoodIn wsX1_meanWeight wsX1_count := goodIn_r _ [6, 7, 8, 16, 17, 18, 19, 20, 21, 22, 23, 24, 25, 26, 27, 28] (by decide +kernel) (by decide +kernel)
set_option maxRecDepth 20000 in
theorem gX1_meanWeight_X1_count : GoodIn wsX1_meanWeight (wsV RX1 122 RX1 yX1_count wsX1_count) := goodIn_app (goodIn_of _ (by decide +kernel)) ggX1_meanWeight_X1_count
set_option maxRecDepth 20000 in
theorem ggX1_meanWeight_X1_done : GoodIn wsX1_meanWeight wsX1_done := goodIn_r _ [12, 7, 13, 14, 15, 16, 17, 18, 19, 20, 21, 22, 23, 24, 25, 26, 27, 28] (by decide +kernel) (by decide +kernel)
set_option maxRecDepth 20000 in
theorem gX1_meanWeight_X1_done : GoodIn wsX1_meanWeight (wsV RX1 112 RX1 yX1_done wsX1_done) := goodIn_app (goodIn_of _ (by decide +kernel)) ggX1_meanWeight_X1_done
theorem dX1_meanWeight_0 : decode cX1_meanWeight 0 = .ok (.aload_n 0, 1) := by decide +kernel
theorem dX1_meanWeight_1 : decode cX1_meanWeight 1 = .ok (.iconst 0, 1) := by decide +kernel
theorem dX1_meanWeight_2 : decode cX1_meanWeight 2 = .ok (.putfield 35, 3) := by decide +kernel
theorem dX1_meanWeight_5 : decode cX1_meanWeight 5 = .ok (.aload_n 0, 1) := by decide +kernel
theorem dX1_meanWeight_6 : decode cX1_meanWeight 6 = .ok (.iconst 0, 1) := by decide +kernel
theorem dX1_meanWeight_7 : decode cX1_meanWeight 7 = .ok (.invokevirtual 122, 3) := by decide +kernel
theorem dX1_meanWeight_10 : decode cX1_meanWeight 10 = .ok (.ifCond .ne 7, 3) := by decide +kernel
theorem dX1_meanWeight_13 : decode cX1_meanWeight 13 = .ok (.dconst 0, 1) := by decide +kernel
theorem dX1_meanWeight_14 : decode cX1_meanWeight 14 = .ok (.goto 17, 3) := by decide +kernel
theorem dX1_meanWeight_17 : decode cX1_meanWeight 17 = .ok (.aload_n 0, 1) := by decide +kernel
theorem dX1_meanWeight_18 : decode cX1_meanWeight 18 = .ok (.iconst (-1), 1) := by decide +kernel
theorem dX1_meanWeight_19 : decode cX1_meanWeight 19 = .ok (.iconst (-1), 1) := by decide +kernel
theorem dX1_meanWeight_20 : decode cX1_meanWeight 20 = .ok (.invokevirtual 112, 3) := by decide +kernel
theorem dX1_meanWeight_23 : decode cX1_meanWeight 23 = .ok (.i2d, 1) := by decide +kernel
theorem dX1_meanWeight_24 : decode cX1_meanWeight 24 = .ok (.aload_n 0, 1) := by decide +kernel
theorem dX1_meanWeight_25 : decode cX1_meanWeight 25 = .ok (.iconst 0, 1) := by decide +kernel
theorem dX1_meanWeight_26 : decode cX1_meanWeight 26 = .ok (.invokevirtual 122, 3) := by decide +kernel
theorem dX1_meanWeight_29 : decode cX1_meanWeight 29 = .ok (.i2d, 1) := by decide +kernel
theorem dX1_meanWeight_30 : decode cX1_meanWeight 30 = .ok (.ddiv, 1) := by decide +kernel
theorem dX1_meanWeight_31 : decode cX1_meanWeight 31 = .ok (.dreturn, 1) := by decide +kernel
set_option maxRecDepth 20000 in
theorem ggX1_digest_X1_here : GoodIn wsX1_digest wsX1_here := goodIn_r _ [19, 4, 9, 84, 85, 86, 87, 88, 89, 90, 91, 92, 93, 94, 95, 96] (by decide +kernel) (by decide +kernel)
set_option maxRecDepth 20000 in
theorem gX1_digest_X1_here : GoodIn wsX1_digest (wsV RX1 108 RX1 yX1_here wsX1_here) := goodIn_app (goodIn_of _ (by decide +kernel)) ggX1_digest_X1_here
set_option maxRecDepth 20000 in
theorem ggX1_digest_X1_sore : GoodIn wsX1_digest wsX1_sore := goodIn_r _ [23, 4, 24, 25, 26, 18, 27, 5, 28, 29, 11, 84, 85, 86, 87, 88, 89, 90, 91, 92, 93, 94, 95, 96] (by decide +kernel) (by decide +kernel)
set_option maxRecDepth 20000 in
theorem gX1_digest_X1_sore : GoodIn wsX1_digest (wsV RX1 115 RX1 yX1_sore wsX1_sore) := goodIn_app (goodIn_of _ (by decide +kernel)) ggX1_digest_X1_sore
set_option maxRecDepth 20000 in
theorem ggX1_digest_X1_count : GoodIn wsX1_digest wsX1_count := goodIn_r _ [33, 5, 12, 84, 85, 86, 87, 88, 89, 90, 91, 92, 93, 94, 95, 96] (by decide +kernel) (by decide +kernel)
set_option maxRecDepth 20000 in
theorem gX1_digest_X1_count : GoodIn wsX1_digest (wsV RX1 122 RX1 yX1_count wsX1_count) := goodIn_app (goodIn_of _ (by decide +kernel)) ggX1_digest_X1_count
set_option maxRecDepth 20000 in
theorem ggX1_digest_X1_heavy : GoodIn wsX1_digest wsX1_heavy := goodIn_r _ [37, 5, 11, 38, 39, 40, 18, 41, 12, 84, 85, 86, 87, 88, 89, 90, 91, 92, 93, 94, 95, 96] (by decide +kernel) (by decide +kernel)
set_option maxRecDepth 20000 in
theorem gX1_digest_X1_heavy : GoodIn wsX1_digest (wsV RX1 125 RX1 yX1_heavy wsX1_heavy) := goodIn_app (goodIn_of _ (by decide +kernel)) ggX1_digest_X1_heavy
set_option maxRecDepth 20000 in
theorem ggX1_digest_X1_pairs : GoodIn wsX1_digest wsX1_pairs := goodIn_r _ [45, 5, 46, 47, 48, 18, 49, 28, 29, 38, 39, 40, 41, 12, 84, 85, 86, 87, 88, 89, 90, 91, 92, 93, 94, 95, 96] (by decide +kernel) (by decide +kernel)
set_option maxRecDepth 20000 in
theorem gX1_digest_X1_pairs : GoodIn wsX1_digest (wsV RX1 128 RX1 yX1_pairs wsX1_pairs) := goodIn_app (goodIn_of _ (by decide +kernel)) ggX1_digest_X1_pairs
set_option maxRecDepth 20000 in
theorem ggX1_digest_X1_done : GoodIn wsX1_digest wsX1_done := goodIn_r _ [27, 5, 28, 29, 11, 84, 85, 86, 87, 88, 89, 90, 91, 92, 93, 94, 95, 96] (by decide +kernel) (by decide +kernel)
set_option maxRecDepth 20000 in
theorem gX1_digest_X1_done : GoodIn wsX1_digest (wsV RX1 112 RX1 yX1_done wsX1_done) := goodIn_app (goodIn_of _ (by decide +kernel)) ggX1_digest_X1_done
set_option maxRecDepth 20000 in
theorem ggX1_digest_X1_borneThen : GoodIn wsX1_digest wsX1_borneThen := goodIn_r _ [53, 5, 29, 54, 55, 56, 18, 57, 14, 11, 13, 38, 39, 40, 41, 12, 58, 59, 60, 61, 62, 63, 64, 65, 66, 67, 84, 85, 86, 87, 88, 89, 90, 91, 92, 93, 94, 95, 96] (by decide +kernel) (by decide +kernel)
set_option maxRecDepth 20000 in
theorem gX1_digest_X1_borneThen : GoodIn wsX1_digest (wsV RX1 137 RX1 yX1_borneThen wsX1_borneThen) := goodIn_app (goodIn_of _ (by decide +kernel)) ggX1_digest_X1_borneThen
set_option maxRecDepth 20000 in
theorem ggX1_digest_X1_worst : GoodIn wsX1_digest wsX1_worst := goodIn_r _ [71, 5, 28, 11, 38, 39, 40, 18, 41, 12, 54, 55, 56, 57, 14, 13, 58, 59, 60, 61, 62, 63, 64, 65, 66, 67, 84, 85, 86, 87, 88, 89, 90, 91, 92, 93, 94, 95, 96] (by decide +kernel) (by decide +kernel)
set_option maxRecDepth 20000 in
theorem gX1_digest_X1_worst : GoodIn wsX1_digest (wsV RX1 140 RX1 yX1_worst wsX1_worst) := goodIn_app (goodIn_of _ (by decide +kernel)) ggX1_digest_X1_worst
set_option maxRecDepth 20000 in
theorem ggX1_digest_X1_witnesses : GoodIn wsX1_digest wsX1_witnesses := goodIn_r _ [75, 4, 9, 28, 29, 84, 85, 86, 87, 88, 89, 90, 91, 92, 93, 94, 95, 96] (by decide +kernel) (by decide +kernel)
set_option maxRecDepth 20000 in
theorem gX1_digest_X1_witnesses : GoodIn wsX1_digest (wsV RX1 66 RX1 yX1_witnesses wsX1_witnesses) := goodIn_app (goodIn_of _ (by decide +kernel)) ggX1_digest_X1_witnesses
set_option maxRecDepth 20000 in
theorem ggX1_digest_X1_wanted : GoodIn wsX1_digest wsX1_wanted := goodIn_r _ [79, 11, 10, 29, 61, 62, 63, 64, 38, 39, 40, 18, 41, 12, 72, 73, 74, 75, 4, 9, 28, 84, 85, 86, 87, 88, 89, 90, 91, 92, 93, 94, 95, 96] (by decide +kernel) (by decide +kernel)
set_option maxRecDepth 20000 in
theorem gX1_digest_X1_wanted : GoodIn wsX1_digest (wsV RX1 131 RX1 yX1_wanted wsX1_wanted) := goodIn_app (goodIn_of _ (by decide +kernel)) ggX1_digest_X1_wanted
set_option maxRecDepth 20000 in
theorem ggX1_digest_X1_later : GoodIn wsX1_digest wsX1_later := goodIn_r _ [57, 14, 11, 13, 38, 39, 40, 18, 41, 12, 58, 59, 60, 61, 62, 63, 64, 65, 66, 67, 84, 85, 86, 87, 88, 89, 90, 91, 92, 93, 94, 95, 96] (by decide +kernel) (by decide +kernel)
set_option maxRecDepth 20000 in
theorem gX1_digest_X1_later : GoodIn wsX1_digest (wsV RX1 99 RX1 yX1_later wsX1_later) := goodIn_app (goodIn_of _ (by decide +kernel)) ggX1_digest_X1_later
set_option maxRecDepth 20000 in
theorem ggX1_digest_X1_until : GoodIn wsX1_digest wsX1_until := goodIn_r _ [83, 14, 38, 39, 40, 18, 41, 12, 84, 85, 86, 87, 88, 89, 90, 91, 92, 93, 94, 95, 96] (by decide +kernel) (by decide +kernel)
set_option maxRecDepth 20000 in
theorem gX1_digest_X1_until : GoodIn wsX1_digest (wsV RX1 134 RX1 yX1_until wsX1_until) := goodIn_app (goodIn_of _ (by decide +kernel)) ggX1_digest_X1_until
theorem dX1_digest_0 : decode cX1_digest 0 = .ok (.aload_n 0, 1) := by decide +kernel
theorem dX1_digest_1 : decode cX1_digest 1 = .ok (.iconst 0, 1) := by decide +kernel
theorem dX1_digest_2 : decode cX1_digest 2 = .ok (.putfield 35, 3) := by decide +kernel
theorem dX1_digest_5 : decode cX1_digest 5 = .ok (.bipush 12, 2) := by decide +kernel
theorem dX1_digest_7 : decode cX1_digest 7 = .ok (.newarray .int, 2) := by decide +kernel
theorem dX1_digest_9 : decode cX1_digest 9 = .ok (.dup, 1) := by decide +kernel
theorem dX1_digest_10 : decode cX1_digest 10 = .ok (.iconst 0, 1) := by decide +kernel
theorem dX1_digest_11 : decode cX1_digest 11 = .ok (.aload_n 0, 1) := by decide +kernel
theorem dX1_digest_12 : decode cX1_digest 12 = .ok (.getfield 102, 3) := by decide +kernel
theorem dX1_digest_15 : decode cX1_digest 15 = .ok (.iastore, 1) := by decide +kernel
theorem dX1_digest_16 : decode cX1_digest 16 = .ok (.dup, 1) := by decide +kernel
theorem dX1_digest_17 : decode cX1_digest 17 = .ok (.iconst 1, 1) := by decide +kernel
theorem dX1_digest_18 : decode cX1_digest 18 = .ok (.aload_n 0, 1) := by decide +kernel
theorem dX1_digest_19 : decode cX1_digest 19 = .ok (.getfield 39, 3) := by decide +kernel
theorem dX1_digest_22 : decode cX1_digest 22 = .ok (.iastore, 1) := by decide +kernel
theorem dX1_digest_23 : decode cX1_digest 23 = .ok (.dup, 1) := by decide +kernel
theorem dX1_digest_24 : decode cX1_digest 24 = .ok (.iconst 2, 1) := by decide +kernel
theorem dX1_digest_25 : decode cX1_digest 25 = .ok (.aload_n 0, 1) := by decide +kernel
theorem dX1_digest_26 : decode cX1_digest 26 = .ok (.getfield 46, 3) := by decide +kernel
theorem dX1_digest_29 : decode cX1_digest 29 = .ok (.iastore, 1) := by decide +kernel
theorem dX1_digest_30 : decode cX1_digest 30 = .ok (.dup, 1) := by decide +kernel
theorem dX1_digest_31 : decode cX1_digest 31 = .ok (.iconst 3, 1) := by decide +kernel
theorem dX1_digest_32 : decode cX1_digest 32 = .ok (.aload_n 0, 1) := by decide +kernel
theorem dX1_digest_33 : decode cX1_digest 33 = .ok (.invokevirtual 108, 3) := by decide +kernel
theorem dX1_digest_36 : decode cX1_digest 36 = .ok (.iastore, 1) := by decide +kernel
theorem dX1_digest_37 : decode cX1_digest 37 = .ok (.dup, 1) := by decide +kernel
theorem dX1_digest_38 : decode cX1_digest 38 = .ok (.iconst 4, 1) := by decide +kernel
theorem dX1_digest_39 : decode cX1_digest 39 = .ok (.aload_n 0, 1) := by decide +kernel
theorem dX1_digest_40 : decode cX1_digest 40 = .ok (.getfield 89, 3) := by decide +kernel
theorem dX1_digest_43 : decode cX1_digest 43 = .ok (.iastore, 1) := by decide +kernel
theorem dX1_digest_44 : decode cX1_digest 44 = .ok (.dup, 1) := by decide +kernel
theorem dX1_digest_45 : decode cX1_digest 45 = .ok (.iconst 5, 1) := by decide +kernel
theorem dX1_digest_46 : decode cX1_digest 46 = .ok (.aload_n 0, 1) := by decide +kernel
theorem dX1_digest_47 : decode cX1_digest 47 = .ok (.invokevirtual 115, 3) := by decide +kernel
theorem dX1_digest_50 : decode cX1_digest 50 = .ok (.iastore, 1) := by decide +kernel
theorem dX1_digest_51 : decode cX1_digest 51 = .ok (.dup, 1) := by decide +kernel
theorem dX1_digest_52 : decode cX1_digest 52 = .ok (.bipush 6, 2) := by decide +kernel
theorem dX1_digest_54 : decode cX1_digest 54 = .ok (.aload_n 0, 1) := by decide +kernel
theorem dX1_digest_55 : decode cX1_digest 55 = .ok (.iconst 0, 1) := by decide +kernel
theorem dX1_digest_56 : decode cX1_digest 56 = .ok (.invokevirtual 122, 3) := by decide +kernel
theorem dX1_digest_59 : decode cX1_digest 59 = .ok (.iastore, 1) := by decide +kernel
theorem dX1_digest_60 : decode cX1_digest 60 = .ok (.dup, 1) := by decide +kernel
theorem dX1_digest_61 : decode cX1_digest 61 = .ok (.bipush 7, 2) := by decide +kernel
theorem dX1_digest_63 : decode cX1_digest 63 = .ok (.aload_n 0, 1) := by decide +kernel
theorem dX1_digest_64 : decode cX1_digest 64 = .ok (.iconst 1, 1) := by decide +kernel
theorem dX1_digest_65 : decode cX1_digest 65 = .ok (.invokevirtual 122, 3) := by decide +kernel
theorem dX1_digest_68 : decode cX1_digest 68 = .ok (.iastore, 1) := by decide +kernel
theorem dX1_digest_69 : decode cX1_digest 69 = .ok (.dup, 1) := by decide +kernel
theorem dX1_digest_70 : decode cX1_digest 70 = .ok (.bipush 8, 2) := by decide +kernel
theorem dX1_digest_72 : decode cX1_digest 72 = .ok (.aload_n 0, 1) := by decide +kernel
theorem dX1_digest_73 : decode cX1_digest 73 = .ok (.iconst 2, 1) := by decide +kernel
theorem dX1_digest_74 : decode cX1_digest 74 = .ok (.invokevirtual 122, 3) := by decide +kernel
theorem dX1_digest_77 : decode cX1_digest 77 = .ok (.iastore, 1) := by decide +kernel
theorem dX1_digest_78 : decode cX1_digest 78 = .ok (.dup, 1) := by decide +kernel
theorem dX1_digest_79 : decode cX1_digest 79 = .ok (.bipush 9, 2) := by decide +kernel
theorem dX1_digest_81 : decode cX1_digest 81 = .ok (.aload_n 0, 1) := by decide +kernel
theorem dX1_digest_82 : decode cX1_digest 82 = .ok (.iconst 3, 1) := by decide +kernel
theorem dX1_digest_83 : decode cX1_digest 83 = .ok (.invokevirtual 122, 3) := by decide +kernel
theorem dX1_digest_86 : decode cX1_digest 86 = .ok (.iastore, 1) := by decide +kernel
theorem dX1_digest_87 : decode cX1_digest 87 = .ok (.dup, 1) := by decide +kernel
theorem dX1_digest_88 : decode cX1_digest 88 = .ok (.bipush 10, 2) := by decide +kernel
theorem dX1_digest_90 : decode cX1_digest 90 = .ok (.aload_n 0, 1) := by decide +kernel
theorem dX1_digest_91 : decode cX1_digest 91 = .ok (.invokevirtual 125, 3) := by decide +kernel
theorem dX1_digest_94 : decode cX1_digest 94 = .ok (.iastore, 1) := by decide +kernel
theorem dX1_digest_95 : decode cX1_digest 95 = .ok (.dup, 1) := by decide +kernel
theorem dX1_digest_96 : decode cX1_digest 96 = .ok (.bipush 11, 2) := by decide +kernel
theorem dX1_digest_98 : decode cX1_digest 98 = .ok (.aload_n 0, 1) := by decide +kernel
theorem dX1_digest_99 : decode cX1_digest 99 = .ok (.invokevirtual 128, 3) := by decide +kernel
theorem dX1_digest_102 : decode cX1_digest 102 = .ok (.iastore, 1) := by decide +kernel
theorem dX1_digest_103 : decode cX1_digest 103 = .ok (.astore_n 1, 1) := by decide +kernel
theorem dX1_digest_104 : decode cX1_digest 104 = .ok (.ldc2_w 143, 3) := by decide +kernel
theorem dX1_digest_107 : decode cX1_digest 107 = .ok (.lstore_n 2, 1) := by decide +kernel
theorem dX1_digest_108 : decode cX1_digest 108 = .ok (.aload_n 1, 1) := by decide +kernel
theorem dX1_digest_109 : decode cX1_digest 109 = .ok (.astore 4, 2) := by decide +kernel
theorem dX1_digest_111 : decode cX1_digest 111 = .ok (.aload 4, 2) := by decide +kernel
theorem dX1_digest_113 : decode cX1_digest 113 = .ok (.arraylength, 1) := by decide +kernel
theorem dX1_digest_114 : decode cX1_digest 114 = .ok (.istore 5, 2) := by decide +kernel
theorem dX1_digest_116 : decode cX1_digest 116 = .ok (.iconst 0, 1) := by decide +kernel
theorem dX1_digest_117 : decode cX1_digest 117 = .ok (.istore 6, 2) := by decide +kernel
theorem dX1_digest_119 : decode cX1_digest 119 = .ok (.iload 6, 2) := by decide +kernel
theorem dX1_digest_121 : decode cX1_digest 121 = .ok (.iload 5, 2) := by decide +kernel
theorem dX1_digest_123 : decode cX1_digest 123 = .ok (.if_icmp .ge 26, 3) := by decide +kernel
theorem dX1_digest_126 : decode cX1_digest 126 = .ok (.aload 4, 2) := by decide +kernel
theorem dX1_digest_128 : decode cX1_digest 128 = .ok (.iload 6, 2) := by decide +kernel
theorem dX1_digest_130 : decode cX1_digest 130 = .ok (.iaload, 1) := by decide +kernel
theorem dX1_digest_131 : decode cX1_digest 131 = .ok (.istore 7, 2) := by decide +kernel
theorem dX1_digest_133 : decode cX1_digest 133 = .ok (.lload_n 2, 1) := by decide +kernel
theorem dX1_digest_134 : decode cX1_digest 134 = .ok (.ldc2_w 145, 3) := by decide +kernel
theorem dX1_digest_137 : decode cX1_digest 137 = .ok (.lmul, 1) := by decide +kernel
theorem dX1_digest_138 : decode cX1_digest 138 = .ok (.iload 7, 2) := by decide +kernel
theorem dX1_digest_140 : decode cX1_digest 140 = .ok (.i2l, 1) := by decide +kernel
theorem dX1_digest_141 : decode cX1_digest 141 = .ok (.ladd, 1) := by decide +kernel
theorem dX1_digest_142 : decode cX1_digest 142 = .ok (.lstore_n 2, 1) := by decide +kernel
theorem dX1_digest_143 : decode cX1_digest 143 = .ok (.iinc 6 1, 3) := by decide +kernel
theorem dX1_digest_146 : decode cX1_digest 146 = .ok (.goto (-27), 3) := by decide +kernel
theorem dX1_digest_149 : decode cX1_digest 149 = .ok (.iconst 0, 1) := by decide +kernel
theorem dX1_digest_150 : decode cX1_digest 150 = .ok (.istore 4, 2) := by decide +kernel
theorem dX1_digest_152 : decode cX1_digest 152 = .ok (.iload 4, 2) := by decide +kernel
theorem dX1_digest_154 : decode cX1_digest 154 = .ok (.aload_n 0, 1) := by decide +kernel
theorem dX1_digest_155 : decode cX1_digest 155 = .ok (.getfield 39, 3) := by decide +kernel
theorem dX1_digest_158 : decode cX1_digest 158 = .ok (.if_icmp .ge 125, 3) := by decide +kernel
theorem dX1_digest_161 : decode cX1_digest 161 = .ok (.bipush 6, 2) := by decide +kernel
theorem dX1_digest_163 : decode cX1_digest 163 = .ok (.newarray .int, 2) := by decide +kernel
theorem dX1_digest_165 : decode cX1_digest 165 = .ok (.dup, 1) := by decide +kernel
theorem dX1_digest_166 : decode cX1_digest 166 = .ok (.iconst 0, 1) := by decide +kernel
theorem dX1_digest_167 : decode cX1_digest 167 = .ok (.aload_n 0, 1) := by decide +kernel
theorem dX1_digest_168 : decode cX1_digest 168 = .ok (.getfield 13, 3) := by decide +kernel
theorem dX1_digest_171 : decode cX1_digest 171 = .ok (.iload 4, 2) := by decide +kernel
theorem dX1_digest_173 : decode cX1_digest 173 = .ok (.baload, 1) := by decide +kernel
theorem dX1_digest_174 : decode cX1_digest 174 = .ok (.ifCond .eq 7, 3) := by decide +kernel
theorem dX1_digest_177 : decode cX1_digest 177 = .ok (.iconst 1, 1) := by decide +kernel
theorem dX1_digest_178 : decode cX1_digest 178 = .ok (.goto 4, 3) := by decide +kernel
theorem dX1_digest_181 : decode cX1_digest 181 = .ok (.iconst 0, 1) := by decide +kernel
theorem dX1_digest_182 : decode cX1_digest 182 = .ok (.iastore, 1) := by decide +kernel
theorem dX1_digest_183 : decode cX1_digest 183 = .ok (.dup, 1) := by decide +kernel
theorem dX1_digest_184 : decode cX1_digest 184 = .ok (.iconst 1, 1) := by decide +kernel
theorem dX1_digest_185 : decode cX1_digest 185 = .ok (.aload_n 0, 1) := by decide +kernel
theorem dX1_digest_186 : decode cX1_digest 186 = .ok (.getfield 9, 3) := by decide +kernel
theorem dX1_digest_189 : decode cX1_digest 189 = .ok (.iload 4, 2) := by decide +kernel
theorem dX1_digest_191 : decode cX1_digest 191 = .ok (.iaload, 1) := by decide +kernel
theorem dX1_digest_192 : decode cX1_digest 192 = .ok (.iastore, 1) := by decide +kernel
theorem dX1_digest_193 : decode cX1_digest 193 = .ok (.dup, 1) := by decide +kernel
theorem dX1_digest_194 : decode cX1_digest 194 = .ok (.iconst 2, 1) := by decide +kernel
theorem dX1_digest_195 : decode cX1_digest 195 = .ok (.aload_n 0, 1) := by decide +kernel
theorem dX1_digest_196 : decode cX1_digest 196 = .ok (.iconst (-1), 1) := by decide +kernel
theorem dX1_digest_197 : decode cX1_digest 197 = .ok (.iload 4, 2) := by decide +kernel
theorem dX1_digest_199 : decode cX1_digest 199 = .ok (.invokevirtual 112, 3) := by decide +kernel
theorem dX1_digest_202 : decode cX1_digest 202 = .ok (.iastore, 1) := by decide +kernel
theorem dX1_digest_203 : decode cX1_digest 203 = .ok (.dup, 1) := by decide +kernel
theorem dX1_digest_204 : decode cX1_digest 204 = .ok (.iconst 3, 1) := by decide +kernel
theorem dX1_digest_205 : decode cX1_digest 205 = .ok (.aload_n 0, 1) := by decide +kernel
theorem dX1_digest_206 : decode cX1_digest 206 = .ok (.iload 4, 2) := by decide +kernel
theorem dX1_digest_208 : decode cX1_digest 208 = .ok (.iconst (-1), 1) := by decide +kernel
theorem dX1_digest_209 : decode cX1_digest 209 = .ok (.invokevirtual 112, 3) := by decide +kernel
theorem dX1_digest_212 : decode cX1_digest 212 = .ok (.iastore, 1) := by decide +kernel
theorem dX1_digest_213 : decode cX1_digest 213 = .ok (.dup, 1) := by decide +kernel
theorem dX1_digest_214 : decode cX1_digest 214 = .ok (.iconst 4, 1) := by decide +kernel
theorem dX1_digest_215 : decode cX1_digest 215 = .ok (.aload_n 0, 1) := by decide +kernel
theorem dX1_digest_216 : decode cX1_digest 216 = .ok (.iload 4, 2) := by decide +kernel
theorem dX1_digest_218 : decode cX1_digest 218 = .ok (.bipush 10, 2) := by decide +kernel
theorem dX1_digest_220 : decode cX1_digest 220 = .ok (.invokevirtual 137, 3) := by decide +kernel
theorem dX1_digest_223 : decode cX1_digest 223 = .ok (.iastore, 1) := by decide +kernel
theorem dX1_digest_224 : decode cX1_digest 224 = .ok (.dup, 1) := by decide +kernel
theorem dX1_digest_225 : decode cX1_digest 225 = .ok (.iconst 5, 1) := by decide +kernel
theorem dX1_digest_226 : decode cX1_digest 226 = .ok (.aload_n 0, 1) := by decide +kernel
theorem dX1_digest_227 : decode cX1_digest 227 = .ok (.iload 4, 2) := by decide +kernel
theorem dX1_digest_229 : decode cX1_digest 229 = .ok (.invokevirtual 140, 3) := by decide +kernel
theorem dX1_digest_232 : decode cX1_digest 232 = .ok (.iastore, 1) := by decide +kernel
theorem dX1_digest_233 : decode cX1_digest 233 = .ok (.astore 5, 2) := by decide +kernel
theorem dX1_digest_235 : decode cX1_digest 235 = .ok (.aload 5, 2) := by decide +kernel
theorem dX1_digest_237 : decode cX1_digest 237 = .ok (.astore 6, 2) := by decide +kernel
theorem dX1_digest_239 : decode cX1_digest 239 = .ok (.aload 6, 2) := by decide +kernel
theorem dX1_digest_241 : decode cX1_digest 241 = .ok (.arraylength, 1) := by decide +kernel
theorem dX1_digest_242 : decode cX1_digest 242 = .ok (.istore 7, 2) := by decide +kernel
theorem dX1_digest_244 : decode cX1_digest 244 = .ok (.iconst 0, 1) := by decide +kernel
theorem dX1_digest_245 : decode cX1_digest 245 = .ok (.istore 8, 2) := by decide +kernel
theorem dX1_digest_247 : decode cX1_digest 247 = .ok (.iload 8, 2) := by decide +kernel
theorem dX1_digest_249 : decode cX1_digest 249 = .ok (.iload 7, 2) := by decide +kernel
theorem dX1_digest_251 : decode cX1_digest 251 = .ok (.if_icmp .ge 26, 3) := by decide +kernel
theorem dX1_digest_254 : decode cX1_digest 254 = .ok (.aload 6, 2) := by decide +kernel
theorem dX1_digest_256 : decode cX1_digest 256 = .ok (.iload 8, 2) := by decide +kernel
theorem dX1_digest_258 : decode cX1_digest 258 = .ok (.iaload, 1) := by decide +kernel
theorem dX1_digest_259 : decode cX1_digest 259 = .ok (.istore 9, 2) := by decide +kernel
theorem dX1_digest_261 : decode cX1_digest 261 = .ok (.lload_n 2, 1) := by decide +kernel
theorem dX1_digest_262 : decode cX1_digest 262 = .ok (.ldc2_w 145, 3) := by decide +kernel
theorem dX1_digest_265 : decode cX1_digest 265 = .ok (.lmul, 1) := by decide +kernel
theorem dX1_digest_266 : decode cX1_digest 266 = .ok (.iload 9, 2) := by decide +kernel
theorem dX1_digest_268 : decode cX1_digest 268 = .ok (.i2l, 1) := by decide +kernel
theorem dX1_digest_269 : decode cX1_digest 269 = .ok (.ladd, 1) := by decide +kernel
theorem dX1_digest_270 : decode cX1_digest 270 = .ok (.lstore_n 2, 1) := by decide +kernel
theorem dX1_digest_271 : decode cX1_digest 271 = .ok (.iinc 8 1, 3) := by decide +kernel
theorem dX1_digest_274 : decode cX1_digest 274 = .ok (.goto (-27), 3) := by decide +kernel
theorem dX1_digest_277 : decode cX1_digest 277 = .ok (.iinc 4 1, 3) := by decide +kernel
theorem dX1_digest_280 : decode cX1_digest 280 = .ok (.goto (-128), 3) := by decide +kernel
theorem dX1_digest_283 : decode cX1_digest 283 = .ok (.iconst 0, 1) := by decide +kernel
theorem dX1_digest_284 : decode cX1_digest 284 = .ok (.istore 4, 2) := by decide +kernel
theorem dX1_digest_286 : decode cX1_digest 286 = .ok (.iload 4, 2) := by decide +kernel
theorem dX1_digest_288 : decode cX1_digest 288 = .ok (.aload_n 0, 1) := by decide +kernel
theorem dX1_digest_289 : decode cX1_digest 289 = .ok (.getfield 46, 3) := by decide +kernel
theorem dX1_digest_292 : decode cX1_digest 292 = .ok (.if_icmp .ge 137, 3) := by decide +kernel
theorem dX1_digest_295 : decode cX1_digest 295 = .ok (.bipush 8, 2) := by decide +kernel
theorem dX1_digest_297 : decode cX1_digest 297 = .ok (.newarray .int, 2) := by decide +kernel
theorem dX1_digest_299 : decode cX1_digest 299 = .ok (.dup, 1) := by decide +kernel
theorem dX1_digest_300 : decode cX1_digest 300 = .ok (.iconst 0, 1) := by decide +kernel
theorem dX1_digest_301 : decode cX1_digest 301 = .ok (.aload_n 0, 1) := by decide +kernel
theorem dX1_digest_302 : decode cX1_digest 302 = .ok (.getfield 23, 3) := by decide +kernel
theorem dX1_digest_305 : decode cX1_digest 305 = .ok (.iload 4, 2) := by decide +kernel
theorem dX1_digest_307 : decode cX1_digest 307 = .ok (.iaload, 1) := by decide +kernel
theorem dX1_digest_308 : decode cX1_digest 308 = .ok (.iastore, 1) := by decide +kernel
theorem dX1_digest_309 : decode cX1_digest 309 = .ok (.dup, 1) := by decide +kernel
theorem dX1_digest_310 : decode cX1_digest 310 = .ok (.iconst 1, 1) := by decide +kernel
theorem dX1_digest_311 : decode cX1_digest 311 = .ok (.aload_n 0, 1) := by decide +kernel
theorem dX1_digest_312 : decode cX1_digest 312 = .ok (.getfield 26, 3) := by decide +kernel
theorem dX1_digest_315 : decode cX1_digest 315 = .ok (.iload 4, 2) := by decide +kernel
theorem dX1_digest_317 : decode cX1_digest 317 = .ok (.iaload, 1) := by decide +kernel
theorem dX1_digest_318 : decode cX1_digest 318 = .ok (.iastore, 1) := by decide +kernel
theorem dX1_digest_319 : decode cX1_digest 319 = .ok (.dup, 1) := by decide +kernel
theorem dX1_digest_320 : decode cX1_digest 320 = .ok (.iconst 2, 1) := by decide +kernel
theorem dX1_digest_321 : decode cX1_digest 321 = .ok (.aload_n 0, 1) := by decide +kernel
theorem dX1_digest_322 : decode cX1_digest 322 = .ok (.getfield 29, 3) := by decide +kernel
theorem dX1_digest_325 : decode cX1_digest 325 = .ok (.iload 4, 2) := by decide +kernel
theorem dX1_digest_327 : decode cX1_digest 327 = .ok (.iaload, 1) := by decide +kernel
theorem dX1_digest_328 : decode cX1_digest 328 = .ok (.iastore, 1) := by decide +kernel
theorem dX1_digest_329 : decode cX1_digest 329 = .ok (.dup, 1) := by decide +kernel
theorem dX1_digest_330 : decode cX1_digest 330 = .ok (.iconst 3, 1) := by decide +kernel
theorem dX1_digest_331 : decode cX1_digest 331 = .ok (.aload_n 0, 1) := by decide +kernel
theorem dX1_digest_332 : decode cX1_digest 332 = .ok (.getfield 32, 3) := by decide +kernel
theorem dX1_digest_335 : decode cX1_digest 335 = .ok (.iload 4, 2) := by decide +kernel
theorem dX1_digest_337 : decode cX1_digest 337 = .ok (.iaload, 1) := by decide +kernel
theorem dX1_digest_338 : decode cX1_digest 338 = .ok (.iastore, 1) := by decide +kernel
theorem dX1_digest_339 : decode cX1_digest 339 = .ok (.dup, 1) := by decide +kernel
theorem dX1_digest_340 : decode cX1_digest 340 = .ok (.iconst 4, 1) := by decide +kernel
theorem dX1_digest_341 : decode cX1_digest 341 = .ok (.aload_n 0, 1) := by decide +kernel
theorem dX1_digest_342 : decode cX1_digest 342 = .ok (.iload 4, 2) := by decide +kernel
theorem dX1_digest_344 : decode cX1_digest 344 = .ok (.invokevirtual 66, 3) := by decide +kernel
theorem dX1_digest_347 : decode cX1_digest 347 = .ok (.iastore, 1) := by decide +kernel
theorem dX1_digest_348 : decode cX1_digest 348 = .ok (.dup, 1) := by decide +kernel
theorem dX1_digest_349 : decode cX1_digest 349 = .ok (.iconst 5, 1) := by decide +kernel
theorem dX1_digest_350 : decode cX1_digest 350 = .ok (.aload_n 0, 1) := by decide +kernel
theorem dX1_digest_351 : decode cX1_digest 351 = .ok (.iload 4, 2) := by decide +kernel
theorem dX1_digest_353 : decode cX1_digest 353 = .ok (.invokevirtual 131, 3) := by decide +kernel
theorem dX1_digest_356 : decode cX1_digest 356 = .ok (.iastore, 1) := by decide +kernel
theorem dX1_digest_357 : decode cX1_digest 357 = .ok (.dup, 1) := by decide +kernel
theorem dX1_digest_358 : decode cX1_digest 358 = .ok (.bipush 6, 2) := by decide +kernel
theorem dX1_digest_360 : decode cX1_digest 360 = .ok (.aload_n 0, 1) := by decide +kernel
theorem dX1_digest_361 : decode cX1_digest 361 = .ok (.iload 4, 2) := by decide +kernel
theorem dX1_digest_363 : decode cX1_digest 363 = .ok (.bipush 7, 2) := by decide +kernel
theorem dX1_digest_365 : decode cX1_digest 365 = .ok (.invokevirtual 99, 3) := by decide +kernel
theorem dX1_digest_368 : decode cX1_digest 368 = .ok (.iastore, 1) := by decide +kernel
theorem dX1_digest_369 : decode cX1_digest 369 = .ok (.dup, 1) := by decide +kernel
theorem dX1_digest_370 : decode cX1_digest 370 = .ok (.bipush 7, 2) := by decide +kernel
theorem dX1_digest_372 : decode cX1_digest 372 = .ok (.aload_n 0, 1) := by decide +kernel
theorem dX1_digest_373 : decode cX1_digest 373 = .ok (.iload 4, 2) := by decide +kernel
theorem dX1_digest_375 : decode cX1_digest 375 = .ok (.invokevirtual 134, 3) := by decide +kernel
theorem dX1_digest_378 : decode cX1_digest 378 = .ok (.iastore, 1) := by decide +kernel
theorem dX1_digest_379 : decode cX1_digest 379 = .ok (.astore 5, 2) := by decide +kernel
theorem dX1_digest_381 : decode cX1_digest 381 = .ok (.aload 5, 2) := by decide +kernel
theorem dX1_digest_383 : decode cX1_digest 383 = .ok (.astore 6, 2) := by decide +kernel
theorem dX1_digest_385 : decode cX1_digest 385 = .ok (.aload 6, 2) := by decide +kernel
theorem dX1_digest_387 : decode cX1_digest 387 = .ok (.arraylength, 1) := by decide +kernel
theorem dX1_digest_388 : decode cX1_digest 388 = .ok (.istore 7, 2) := by decide +kernel
theorem dX1_digest_390 : decode cX1_digest 390 = .ok (.iconst 0, 1) := by decide +kernel
theorem dX1_digest_391 : decode cX1_digest 391 = .ok (.istore 8, 2) := by decide +kernel
theorem dX1_digest_393 : decode cX1_digest 393 = .ok (.iload 8, 2) := by decide +kernel
theorem dX1_digest_395 : decode cX1_digest 395 = .ok (.iload 7, 2) := by decide +kernel
theorem dX1_digest_397 : decode cX1_digest 397 = .ok (.if_icmp .ge 26, 3) := by decide +kernel
theorem dX1_digest_400 : decode cX1_digest 400 = .ok (.aload 6, 2) := by decide +kernel
theorem dX1_digest_402 : decode cX1_digest 402 = .ok (.iload 8, 2) := by decide +kernel
theorem dX1_digest_404 : decode cX1_digest 404 = .ok (.iaload, 1) := by decide +kernel
theorem dX1_digest_405 : decode cX1_digest 405 = .ok (.istore 9, 2) := by decide +kernel
theorem dX1_digest_407 : decode cX1_digest 407 = .ok (.lload_n 2, 1) := by decide +kernel
theorem dX1_digest_408 : decode cX1_digest 408 = .ok (.ldc2_w 145, 3) := by decide +kernel
theorem dX1_digest_411 : decode cX1_digest 411 = .ok (.lmul, 1) := by decide +kernel
theorem dX1_digest_412 : decode cX1_digest 412 = .ok (.iload 9, 2) := by decide +kernel
theorem dX1_digest_414 : decode cX1_digest 414 = .ok (.i2l, 1) := by decide +kernel
theorem dX1_digest_415 : decode cX1_digest 415 = .ok (.ladd, 1) := by decide +kernel
theorem dX1_digest_416 : decode cX1_digest 416 = .ok (.lstore_n 2, 1) := by decide +kernel
theorem dX1_digest_417 : decode cX1_digest 417 = .ok (.iinc 8 1, 3) := by decide +kernel
theorem dX1_digest_420 : decode cX1_digest 420 = .ok (.goto (-27), 3) := by decide +kernel
theorem dX1_digest_423 : decode cX1_digest 423 = .ok (.iinc 4 1, 3) := by decide +kernel
theorem dX1_digest_426 : decode cX1_digest 426 = .ok (.goto (-140), 3) := by decide +kernel
theorem dX1_digest_429 : decode cX1_digest 429 = .ok (.lload_n 2, 1) := by decide +kernel
theorem dX1_digest_430 : decode cX1_digest 430 = .ok (.lreturn, 1) := by decide +kernel
