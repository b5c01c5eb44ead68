set_option maxRecDepth 20000 in
theorem ggL_build_X1_init : GoodIn wsL_build wsX1_init := goodIn_r _ [6, 7, 8, 9, 10, 11, 12, 205, 206, 207, 208] rfl (by decide +kernel)
set_option maxRecDepth 20000 in
theorem gL_build_X1_init_n74 : GoodIn wsL_build (wsX1_init) := ggL_build_X1_init
set_option maxRecDepth 20000 in
theorem ggL_build_L_cell : GoodIn wsL_build wsL_cell := goodIn_r _ [16, 17] rfl (by decide +kernel)
set_option maxRecDepth 20000 in
theorem gL_build_L_cell : GoodIn wsL_build (va_wsS RL 75 yL_cell wsL_cell) := goodIn_app (goodIn_of _ (by decide +kernel)) ggL_build_L_cell
set_option maxRecDepth 20000 in
theorem ggL_build_L_below : GoodIn wsL_build wsL_below := goodIn_r _ [20, 21] rfl (by decide +kernel)
set_option maxRecDepth 20000 in
theorem gL_build_L_below : GoodIn wsL_build (va_wsS RL 18 yL_below wsL_below) := goodIn_app (goodIn_of _ (by decide +kernel)) ggL_build_L_below
set_option maxRecDepth 20000 in
theorem gh_L_build_L_act : GoodIn wsL_build ([.codeWith yL_act cL_act 13 (some .boolean) [(426, 467, 592, 72), (468, 517, 592, 72), (518, 591, 592, 72)]] : List Cond) := goodIn_r _ [24] rfl (by decide +kernel)
set_option maxRecDepth 20000 in
theorem gr_L_build_L_act_r1 : GoodIn wsL_build wsL_act_r1 := goodIn_r _ [25, 26, 27, 28, 18, 19, 15, 20, 21, 29, 30, 3, 31, 10, 32, 33, 34, 35, 36, 37, 38, 39, 40, 41] rfl (by decide +kernel)
set_option maxRecDepth 20000 in
theorem gr_L_build_L_act_r2 : GoodIn wsL_build wsL_act_r2 := goodIn_r _ [42, 43, 44, 45, 46, 47, 48, 49, 50, 51, 52, 53, 54, 55, 56, 57, 58, 59, 60, 61, 62, 63, 64, 65] rfl (by decide +kernel)
set_option maxRecDepth 20000 in
theorem gr_L_build_L_act_r3 : GoodIn wsL_build wsL_act_r3 := goodIn_r _ [66, 67, 68, 69, 70, 71, 72, 73, 74, 75, 76, 77, 78, 79, 80, 81, 82, 83, 84, 85, 86, 87, 88, 89] rfl (by decide +kernel)
set_option maxRecDepth 20000 in
theorem gr_L_build_L_act_r4 : GoodIn wsL_build wsL_act_r4 := goodIn_r _ [90, 91, 92, 93, 94, 95, 96, 97, 98, 99, 100, 101, 102, 103, 104, 105, 106, 107, 108, 109, 110, 111, 112, 113] rfl (by decide +kernel)
set_option maxRecDepth 20000 in
theorem gr_L_build_L_act_r5 : GoodIn wsL_build wsL_act_r5 := goodIn_r _ [12, 114, 115, 116, 117, 118, 119, 120, 121, 122, 123, 124, 125, 126, 127, 128, 129, 130, 131, 132, 133, 134, 135, 136] rfl (by decide +kernel)
set_option maxRecDepth 20000 in
theorem gr_L_build_L_act_r6 : GoodIn wsL_build wsL_act_r6 := goodIn_r _ [137, 138, 139, 140, 141, 142, 143, 11, 144, 145, 146, 147, 148, 149, 150, 151, 152, 153, 154, 155, 156, 157, 158, 159] rfl (by decide +kernel)
set_option maxRecDepth 20000 in
theorem gr_L_build_L_act_r7 : GoodIn wsL_build wsL_act_r7 := goodIn_r _ [160, 161, 162, 163, 164, 165, 166, 167, 168, 169, 170, 171, 172, 173, 174, 175, 176, 177, 178, 179, 180, 181, 182, 183] rfl (by decide +kernel)
set_option maxRecDepth 20000 in
theorem gr_L_build_L_act_r8 : GoodIn wsL_build wsL_act_r8 := goodIn_r _ [184, 185, 186, 187, 188, 189, 190, 191, 192, 193, 194, 195, 196, 197, 198, 199, 200, 201, 202, 203, 204] rfl (by decide +kernel)
set_option maxRecDepth 20000 in
theorem gx1_L_build_L_act : GoodIn wsL_build wsX10 := goodIn_r _ [205, 206, 207, 208] rfl (by decide +kernel)
set_option maxRecDepth 20000 in
theorem gx0_L_build_L_act : GoodIn wsL_build wsX00 := goodIn_r _ [209, 210, 211, 212, 213, 214, 215, 216, 217, 218, 219, 220] rfl (by decide +kernel)
set_option maxRecDepth 20000 in
theorem ggL_build_L_act : GoodIn wsL_build wsL_act := goodIn_ca (goodIn_ca (goodIn_ca (goodIn_app (a := [.codeWith yL_act cL_act 13 (some .boolean) [(426, 467, 592, 72), (468, 517, 592, 72), (518, 591, 592, 72)]]) gh_L_build_L_act (goodIn_app (goodIn_app (goodIn_app gr_L_build_L_act_r1 (goodIn_app gr_L_build_L_act_r2 (goodIn_app gr_L_build_L_act_r3 (goodIn_app gr_L_build_L_act_r4 (goodIn_app gr_L_build_L_act_r5 (goodIn_app gr_L_build_L_act_r6 (goodIn_app gr_L_build_L_act_r7 gr_L_build_L_act_r8))))))) gx1_L_build_L_act) gx0_L_build_L_act)) (goodIn_sub (fun _ h => List.mem_cons_of_mem _ (List.mem_append_left _ (List.mem_append_left _ (List.mem_append_right _ h)))) (by decide +kernel))) (goodIn_sub (fun _ h => List.mem_cons_of_mem _ (List.mem_append_left _ (List.mem_append_right _ h))) (by decide +kernel))) (goodIn_sub (fun _ h => List.mem_cons_of_mem _ (List.mem_append_right _ h)) (by decide +kernel))
set_option maxRecDepth 20000 in
theorem gL_build_L_act : GoodIn wsL_build (va_wsS RL 79 yL_act wsL_act) := goodIn_app (goodIn_of _ (by decide +kernel)) ggL_build_L_act
theorem dL_build_0 : decode cL_build 0 = .ok (.new 10, 3) := by decide +kernel
theorem dL_build_3 : decode cL_build 3 = .ok (.dup, 1) := by decide +kernel
theorem dL_build_4 : decode cL_build 4 = .ok (.invokespecial 74, 3) := by decide +kernel
theorem dL_build_7 : decode cL_build 7 = .ok (.astore_n 2, 1) := by decide +kernel
theorem dL_build_8 : decode cL_build 8 = .ok (.iconst 2, 1) := by decide +kernel
theorem dL_build_9 : decode cL_build 9 = .ok (.aload_n 1, 1) := by decide +kernel
theorem dL_build_10 : decode cL_build 10 = .ok (.iconst 0, 1) := by decide +kernel
theorem dL_build_11 : decode cL_build 11 = .ok (.invokestatic 75, 3) := by decide +kernel
theorem dL_build_14 : decode cL_build 14 = .ok (.iconst 5, 1) := by decide +kernel
theorem dL_build_15 : decode cL_build 15 = .ok (.invokestatic 18, 3) := by decide +kernel
theorem dL_build_18 : decode cL_build 18 = .ok (.iadd, 1) := by decide +kernel
theorem dL_build_19 : decode cL_build 19 = .ok (.istore_n 3, 1) := by decide +kernel
theorem dL_build_20 : decode cL_build 20 = .ok (.iconst 2, 1) := by decide +kernel
theorem dL_build_21 : decode cL_build 21 = .ok (.aload_n 1, 1) := by decide +kernel
theorem dL_build_22 : decode cL_build 22 = .ok (.iconst 1, 1) := by decide +kernel
theorem dL_build_23 : decode cL_build 23 = .ok (.invokestatic 75, 3) := by decide +kernel
theorem dL_build_26 : decode cL_build 26 = .ok (.bipush 12, 2) := by decide +kernel
theorem dL_build_28 : decode cL_build 28 = .ok (.invokestatic 18, 3) := by decide +kernel
theorem dL_build_31 : decode cL_build 31 = .ok (.iadd, 1) := by decide +kernel
theorem dL_build_32 : decode cL_build 32 = .ok (.istore 4, 2) := by decide +kernel
theorem dL_build_34 : decode cL_build 34 = .ok (.iconst 0, 1) := by decide +kernel
theorem dL_build_35 : decode cL_build 35 = .ok (.istore 5, 2) := by decide +kernel
theorem dL_build_37 : decode cL_build 37 = .ok (.iload 5, 2) := by decide +kernel
theorem dL_build_39 : decode cL_build 39 = .ok (.iload_n 3, 1) := by decide +kernel
theorem dL_build_40 : decode cL_build 40 = .ok (.if_icmp .ge 35, 3) := by decide +kernel
theorem dL_build_43 : decode cL_build 43 = .ok (.aload_n 0, 1) := by decide +kernel
theorem dL_build_44 : decode cL_build 44 = .ok (.aload_n 2, 1) := by decide +kernel
theorem dL_build_45 : decode cL_build 45 = .ok (.bipush 16, 2) := by decide +kernel
theorem dL_build_47 : decode cL_build 47 = .ok (.aload_n 1, 1) := by decide +kernel
theorem dL_build_48 : decode cL_build 48 = .ok (.iconst 2, 1) := by decide +kernel
theorem dL_build_49 : decode cL_build 49 = .ok (.iload 5, 2) := by decide +kernel
theorem dL_build_51 : decode cL_build 51 = .ok (.iadd, 1) := by decide +kernel
theorem dL_build_52 : decode cL_build 52 = .ok (.invokestatic 75, 3) := by decide +kernel
theorem dL_build_55 : decode cL_build 55 = .ok (.iconst 5, 1) := by decide +kernel
theorem dL_build_56 : decode cL_build 56 = .ok (.ishr, 1) := by decide +kernel
theorem dL_build_57 : decode cL_build 57 = .ok (.ldc 78, 2) := by decide +kernel
theorem dL_build_59 : decode cL_build 59 = .ok (.iand, 1) := by decide +kernel
theorem dL_build_60 : decode cL_build 60 = .ok (.imul, 1) := by decide +kernel
theorem dL_build_61 : decode cL_build 61 = .ok (.invokestatic 79, 3) := by decide +kernel
theorem dL_build_64 : decode cL_build 64 = .ok (.ifCond .ne 5, 3) := by decide +kernel
theorem dL_build_67 : decode cL_build 67 = .ok (.aconst_null, 1) := by decide +kernel
theorem dL_build_68 : decode cL_build 68 = .ok (.areturn, 1) := by decide +kernel
theorem dL_build_69 : decode cL_build 69 = .ok (.iinc 5 1, 3) := by decide +kernel
theorem dL_build_72 : decode cL_build 72 = .ok (.goto (-35), 3) := by decide +kernel
theorem dL_build_75 : decode cL_build 75 = .ok (.iconst 0, 1) := by decide +kernel
theorem dL_build_76 : decode cL_build 76 = .ok (.istore 5, 2) := by decide +kernel
theorem dL_build_78 : decode cL_build 78 = .ok (.iload 5, 2) := by decide +kernel
theorem dL_build_80 : decode cL_build 80 = .ok (.iload 4, 2) := by decide +kernel
theorem dL_build_82 : decode cL_build 82 = .ok (.if_icmp .ge 46, 3) := by decide +kernel
theorem dL_build_85 : decode cL_build 85 = .ok (.aload_n 0, 1) := by decide +kernel
theorem dL_build_86 : decode cL_build 86 = .ok (.aload_n 2, 1) := by decide +kernel
theorem dL_build_87 : decode cL_build 87 = .ok (.bipush 16, 2) := by decide +kernel
theorem dL_build_89 : decode cL_build 89 = .ok (.aload_n 1, 1) := by decide +kernel
theorem dL_build_90 : decode cL_build 90 = .ok (.iload 5, 2) := by decide +kernel
theorem dL_build_92 : decode cL_build 92 = .ok (.invokestatic 75, 3) := by decide +kernel
theorem dL_build_95 : decode cL_build 95 = .ok (.iconst 4, 1) := by decide +kernel
theorem dL_build_96 : decode cL_build 96 = .ok (.ishr, 1) := by decide +kernel
theorem dL_build_97 : decode cL_build 97 = .ok (.bipush 97, 2) := by decide +kernel
theorem dL_build_99 : decode cL_build 99 = .ok (.iload 5, 2) := by decide +kernel
theorem dL_build_101 : decode cL_build 101 = .ok (.imul, 1) := by decide +kernel
theorem dL_build_102 : decode cL_build 102 = .ok (.iadd, 1) := by decide +kernel
theorem dL_build_103 : decode cL_build 103 = .ok (.ldc 78, 2) := by decide +kernel
theorem dL_build_105 : decode cL_build 105 = .ok (.iand, 1) := by decide +kernel
theorem dL_build_106 : decode cL_build 106 = .ok (.imul, 1) := by decide +kernel
theorem dL_build_107 : decode cL_build 107 = .ok (.iconst 1, 1) := by decide +kernel
theorem dL_build_108 : decode cL_build 108 = .ok (.iadd, 1) := by decide +kernel
theorem dL_build_109 : decode cL_build 109 = .ok (.iload 5, 2) := by decide +kernel
theorem dL_build_111 : decode cL_build 111 = .ok (.iconst 4, 1) := by decide +kernel
theorem dL_build_112 : decode cL_build 112 = .ok (.irem, 1) := by decide +kernel
theorem dL_build_113 : decode cL_build 113 = .ok (.iadd, 1) := by decide +kernel
theorem dL_build_114 : decode cL_build 114 = .ok (.invokestatic 79, 3) := by decide +kernel
theorem dL_build_117 : decode cL_build 117 = .ok (.ifCond .ne 5, 3) := by decide +kernel
theorem dL_build_120 : decode cL_build 120 = .ok (.aconst_null, 1) := by decide +kernel
theorem dL_build_121 : decode cL_build 121 = .ok (.areturn, 1) := by decide +kernel
theorem dL_build_122 : decode cL_build 122 = .ok (.iinc 5 1, 3) := by decide +kernel
theorem dL_build_125 : decode cL_build 125 = .ok (.goto (-47), 3) := by decide +kernel
theorem dL_build_128 : decode cL_build 128 = .ok (.iconst 0, 1) := by decide +kernel
theorem dL_build_129 : decode cL_build 129 = .ok (.istore 5, 2) := by decide +kernel
theorem dL_build_131 : decode cL_build 131 = .ok (.iload 5, 2) := by decide +kernel
theorem dL_build_133 : decode cL_build 133 = .ok (.bipush 8, 2) := by decide +kernel
theorem dL_build_135 : decode cL_build 135 = .ok (.if_icmp .ge 33, 3) := by decide +kernel
theorem dL_build_138 : decode cL_build 138 = .ok (.aload_n 0, 1) := by decide +kernel
theorem dL_build_139 : decode cL_build 139 = .ok (.aload_n 2, 1) := by decide +kernel
theorem dL_build_140 : decode cL_build 140 = .ok (.aload_n 1, 1) := by decide +kernel
theorem dL_build_141 : decode cL_build 141 = .ok (.iload 5, 2) := by decide +kernel
theorem dL_build_143 : decode cL_build 143 = .ok (.invokestatic 75, 3) := by decide +kernel
theorem dL_build_146 : decode cL_build 146 = .ok (.iconst 2, 1) := by decide +kernel
theorem dL_build_147 : decode cL_build 147 = .ok (.ishr, 1) := by decide +kernel
theorem dL_build_148 : decode cL_build 148 = .ok (.bipush 41, 2) := by decide +kernel
theorem dL_build_150 : decode cL_build 150 = .ok (.iload 5, 2) := by decide +kernel
theorem dL_build_152 : decode cL_build 152 = .ok (.imul, 1) := by decide +kernel
theorem dL_build_153 : decode cL_build 153 = .ok (.iadd, 1) := by decide +kernel
theorem dL_build_154 : decode cL_build 154 = .ok (.invokestatic 79, 3) := by decide +kernel
theorem dL_build_157 : decode cL_build 157 = .ok (.ifCond .ne 5, 3) := by decide +kernel
theorem dL_build_160 : decode cL_build 160 = .ok (.aconst_null, 1) := by decide +kernel
theorem dL_build_161 : decode cL_build 161 = .ok (.areturn, 1) := by decide +kernel
theorem dL_build_162 : decode cL_build 162 = .ok (.iinc 5 1, 3) := by decide +kernel
theorem dL_build_165 : decode cL_build 165 = .ok (.goto (-34), 3) := by decide +kernel
theorem dL_build_168 : decode cL_build 168 = .ok (.aload_n 2, 1) := by decide +kernel
theorem dL_build_169 : decode cL_build 169 = .ok (.areturn, 1) := by decide +kernel
