set_option maxRecDepth 20000 in
theorem ggL_law_X0_init : GoodIn wsL_law wsX0_init := goodIn_r _ [11, 12, 13, 14, 8, 15, 16, 17, 18, 19, 20, 21, 22, 23, 383, 384, 385, 386, 387, 388, 389, 390, 391, 392, 393, 394] rfl (by decide +kernel)
set_option maxRecDepth 20000 in
theorem gL_law_X0_init : GoodIn wsL_law (wsX0_init) := ggL_law_X0_init
set_option maxRecDepth 20000 in
theorem gh_L_law_L_build : GoodIn wsL_law ([.code yL_build cL_build 6 (some (.object "ApologyLedgerLaw$Sim"))] : List Cond) := goodIn_r _ [27] rfl (by decide +kernel)
set_option maxRecDepth 20000 in
theorem gr_L_law_L_build_r1 : GoodIn wsL_law wsL_build_r1 := goodIn_r _ [28, 29, 30, 31, 32, 33, 34, 13, 14, 35, 36, 37, 38, 39, 26, 40, 41, 42, 43, 44, 45, 46, 47, 48] rfl (by decide +kernel)
set_option maxRecDepth 20000 in
theorem gr_L_law_L_build_r2 : GoodIn wsL_law wsL_build_r2 := goodIn_r _ [49, 50, 3, 8, 51, 52, 53, 54, 55, 56, 2, 57, 58, 59, 60, 15, 61, 62, 63, 64, 65, 66, 67, 68] rfl (by decide +kernel)
set_option maxRecDepth 20000 in
theorem gr_L_law_L_build_r3 : GoodIn wsL_law wsL_build_r3 := goodIn_r _ [69, 70, 18, 19, 20, 71, 72, 73, 74, 75, 76, 77, 78, 79, 80, 17, 81, 82, 83, 84, 85, 86, 87, 88] rfl (by decide +kernel)
set_option maxRecDepth 20000 in
theorem gr_L_law_L_build_r4 : GoodIn wsL_law wsL_build_r4 := goodIn_r _ [89, 90, 91, 92, 93, 94, 95, 21, 96, 97, 98, 99, 100, 22, 23, 101, 102, 103, 104, 105, 106, 107, 108, 109] rfl (by decide +kernel)
set_option maxRecDepth 20000 in
theorem gr_L_law_L_build_r5 : GoodIn wsL_law wsL_build_r5 := goodIn_r _ [6, 110, 111, 5, 7, 112, 113, 114, 115, 116, 117, 118, 119, 120, 121, 122, 123, 124, 125, 126, 127, 128, 129, 130] rfl (by decide +kernel)
set_option maxRecDepth 20000 in
theorem gr_L_law_L_build_r6 : GoodIn wsL_law wsL_build_r6 := goodIn_r _ [131, 132, 133, 134, 135, 136, 137, 138, 139, 140, 141, 142, 143, 144, 145, 146, 147, 148, 149, 150, 151, 152, 153, 154] rfl (by decide +kernel)
set_option maxRecDepth 20000 in
theorem gr_L_law_L_build_r7 : GoodIn wsL_law wsL_build_r7 := goodIn_r _ [155, 156, 157, 158, 159, 160, 161, 162, 163, 164, 165, 166, 167, 168, 169, 170, 171, 172, 173, 174, 175, 176, 177, 178] rfl (by decide +kernel)
set_option maxRecDepth 20000 in
theorem gr_L_law_L_build_r8 : GoodIn wsL_law wsL_build_r8 := goodIn_r _ [179, 180, 181, 182, 183, 184, 185, 186, 187, 188, 189, 190, 191, 192, 193, 194, 195, 196, 197, 198, 199, 200, 201, 202] rfl (by decide +kernel)
set_option maxRecDepth 20000 in
theorem gr_L_law_L_build_r9 : GoodIn wsL_law wsL_build_r9 := goodIn_r _ [203, 204, 205, 206, 207, 208, 209, 210, 211, 212, 213, 214] rfl (by decide +kernel)
set_option maxRecDepth 20000 in
theorem gx1_L_law_L_build : GoodIn wsL_law wsX10 := goodIn_r _ [395, 396, 397, 398] rfl (by decide +kernel)
set_option maxRecDepth 20000 in
theorem gx0_L_law_L_build : GoodIn wsL_law wsX00 := goodIn_r _ [383, 384, 385, 386, 387, 388, 389, 390, 391, 392, 393, 394] rfl (by decide +kernel)
set_option maxRecDepth 20000 in
theorem ggL_law_L_build : GoodIn wsL_law wsL_build := goodIn_ca (goodIn_ca (goodIn_ca (goodIn_app (a := [.code yL_build cL_build 6 (some (.object "ApologyLedgerLaw$Sim"))]) gh_L_law_L_build (goodIn_app (goodIn_app (goodIn_app gr_L_law_L_build_r1 (goodIn_app gr_L_law_L_build_r2 (goodIn_app gr_L_law_L_build_r3 (goodIn_app gr_L_law_L_build_r4 (goodIn_app gr_L_law_L_build_r5 (goodIn_app gr_L_law_L_build_r6 (goodIn_app gr_L_law_L_build_r7 (goodIn_app gr_L_law_L_build_r8 gr_L_law_L_build_r9)))))))) gx1_L_law_L_build) gx0_L_law_L_build)) (goodIn_sub (fun _ h => List.mem_append_left _ (List.mem_append_left _ (List.mem_append_right _ h))) (by decide +kernel))) (goodIn_sub (fun _ h => List.mem_append_left _ (List.mem_append_right _ h)) (by decide +kernel))) (goodIn_sub (fun _ h => List.mem_append_right _ h) (by decide +kernel))
set_option maxRecDepth 20000 in
theorem gL_law_L_build : GoodIn wsL_law (va_wsS RL 84 yL_build wsL_build) := goodIn_app (goodIn_of _ (by decide +kernel)) ggL_law_L_build
set_option maxRecDepth 20000 in
theorem ggL_law_L_cell : GoodIn wsL_law wsL_cell := goodIn_r _ [40, 41] rfl (by decide +kernel)
set_option maxRecDepth 20000 in
theorem gL_law_L_cell : GoodIn wsL_law (va_wsS RL 75 yL_cell wsL_cell) := goodIn_app (goodIn_of _ (by decide +kernel)) ggL_law_L_cell
set_option maxRecDepth 20000 in
theorem gh_L_law_L_act : GoodIn wsL_law ([.codeWith yL_act cL_act 13 (some .boolean) [(426, 467, 592, 72), (468, 517, 592, 72), (518, 591, 592, 72)]] : List Cond) := goodIn_r _ [48] rfl (by decide +kernel)
set_option maxRecDepth 20000 in
theorem gr_L_law_L_act_r1 : GoodIn wsL_law wsL_act_r1 := goodIn_r _ [49, 50, 3, 8, 42, 43, 26, 44, 45, 51, 52, 30, 53, 35, 54, 55, 56, 2, 57, 58, 59, 60, 15, 61] rfl (by decide +kernel)
set_option maxRecDepth 20000 in
theorem gr_L_law_L_act_r2 : GoodIn wsL_law wsL_act_r2 := goodIn_r _ [62, 63, 64, 65, 66, 67, 68, 69, 70, 18, 19, 20, 71, 72, 73, 74, 75, 76, 77, 78, 79, 80, 17, 81] rfl (by decide +kernel)
set_option maxRecDepth 20000 in
theorem gr_L_law_L_act_r3 : GoodIn wsL_law wsL_act_r3 := goodIn_r _ [82, 83, 84, 85, 86, 87, 88, 89, 90, 91, 92, 93, 94, 95, 21, 96, 97, 98, 99, 100, 22, 23, 101, 102] rfl (by decide +kernel)
set_option maxRecDepth 20000 in
theorem gr_L_law_L_act_r4 : GoodIn wsL_law wsL_act_r4 := goodIn_r _ [103, 104, 105, 106, 107, 108, 109, 6, 110, 111, 5, 7, 112, 113, 114, 115, 116, 117, 118, 119, 120, 121, 122, 123] rfl (by decide +kernel)
set_option maxRecDepth 20000 in
theorem gr_L_law_L_act_r5 : GoodIn wsL_law wsL_act_r5 := goodIn_r _ [37, 124, 125, 126, 127, 128, 129, 130, 131, 132, 133, 134, 135, 136, 137, 138, 139, 140, 141, 142, 143, 144, 145, 146] rfl (by decide +kernel)
set_option maxRecDepth 20000 in
theorem gr_L_law_L_act_r6 : GoodIn wsL_law wsL_act_r6 := goodIn_r _ [147, 148, 149, 150, 151, 152, 153, 36, 154, 155, 156, 157, 158, 159, 160, 161, 162, 163, 164, 165, 166, 167, 168, 169] rfl (by decide +kernel)
set_option maxRecDepth 20000 in
theorem gr_L_law_L_act_r7 : GoodIn wsL_law wsL_act_r7 := goodIn_r _ [170, 171, 172, 173, 174, 175, 176, 177, 178, 179, 180, 181, 182, 183, 184, 185, 186, 187, 188, 189, 190, 191, 192, 193] rfl (by decide +kernel)
set_option maxRecDepth 20000 in
theorem gr_L_law_L_act_r8 : GoodIn wsL_law wsL_act_r8 := goodIn_r _ [194, 195, 196, 197, 198, 199, 200, 201, 202, 203, 204, 205, 206, 207, 208, 209, 210, 211, 212, 213, 214] rfl (by decide +kernel)
set_option maxRecDepth 20000 in
theorem gx1_L_law_L_act : GoodIn wsL_law wsX10 := goodIn_r _ [395, 396, 397, 398] rfl (by decide +kernel)
set_option maxRecDepth 20000 in
theorem gx0_L_law_L_act : GoodIn wsL_law wsX00 := goodIn_r _ [383, 384, 385, 386, 387, 388, 389, 390, 391, 392, 393, 394] rfl (by decide +kernel)
set_option maxRecDepth 20000 in
theorem ggL_law_L_act : GoodIn wsL_law wsL_act := goodIn_ca (goodIn_ca (goodIn_ca (goodIn_app (a := [.codeWith yL_act cL_act 13 (some .boolean) [(426, 467, 592, 72), (468, 517, 592, 72), (518, 591, 592, 72)]]) gh_L_law_L_act (goodIn_app (goodIn_app (goodIn_app gr_L_law_L_act_r1 (goodIn_app gr_L_law_L_act_r2 (goodIn_app gr_L_law_L_act_r3 (goodIn_app gr_L_law_L_act_r4 (goodIn_app gr_L_law_L_act_r5 (goodIn_app gr_L_law_L_act_r6 (goodIn_app gr_L_law_L_act_r7 gr_L_law_L_act_r8))))))) gx1_L_law_L_act) gx0_L_law_L_act)) (goodIn_sub (fun _ h => List.mem_append_left _ (List.mem_append_left _ (List.mem_append_right _ h))) (by decide +kernel))) (goodIn_sub (fun _ h => List.mem_append_left _ (List.mem_append_right _ h)) (by decide +kernel))) (goodIn_sub (fun _ h => List.mem_append_right _ h) (by decide +kernel))
set_option maxRecDepth 20000 in
theorem gL_law_L_act : GoodIn wsL_law (va_wsS RL 79 yL_act wsL_act) := goodIn_app (goodIn_of _ (by decide +kernel)) ggL_law_L_act
set_option maxRecDepth 20000 in
theorem ggL_law_X0_digest : GoodIn wsL_law wsX0_digest := goodIn_ca (goodIn_ca (goodIn_r _ [218, 219, 60, 70, 220, 221, 222, 2, 223, 224, 225, 226, 227, 96, 228, 229, 230, 231, 232, 233, 234, 235, 236, 237, 238, 239, 240, 241, 242, 243, 17, 244, 245, 246, 247, 163, 248, 249, 250, 251, 252, 253, 254, 255, 21, 19, 20, 71, 72, 73, 74, 75, 76, 256, 257, 258, 259, 64, 65, 260, 261, 262, 263, 264, 265, 266, 267, 207, 208, 209, 210, 211, 212, 213, 214, 18, 101, 102, 103, 104, 179, 180, 181, 182, 268, 269, 270, 271, 272, 273, 274, 275, 183, 184, 185, 186, 15, 276, 277, 278, 279, 280, 281, 282, 283, 89, 90, 91, 284, 285, 286, 287, 23, 22, 105, 106, 107, 108, 109, 6, 110, 111, 5, 7, 288, 289, 290, 291, 292, 293, 294, 295, 187, 188, 189, 190, 137, 138, 139, 140, 296, 297, 298, 299, 300, 301, 302, 303, 171, 172, 173, 174, 304, 305, 306, 307, 175, 176, 177, 178, 167, 168, 169, 170, 308, 309, 310, 311, 383, 384, 385, 386, 387, 388, 389, 390, 391, 392, 393, 394] rfl (by decide +kernel)) (goodIn_sub (fun _ h => List.mem_append_right _ h) (by decide +kernel))) (goodIn_sub (fun _ h => List.mem_append_left _ (List.mem_append_right _ h)) (by decide +kernel))
set_option maxRecDepth 20000 in
theorem gL_law_X0_digest : GoodIn wsL_law (wsV RL 88 RX0 yX0_digest wsX0_digest) := goodIn_app (goodIn_of _ (by decide +kernel)) ggL_law_X0_digest
set_option maxRecDepth 20000 in
theorem ggL_law_X0_persons : GoodIn wsL_law wsX0_persons := goodIn_r _ [235, 60, 383, 384, 385, 386, 387, 388, 389, 390, 391, 392, 393, 394] rfl (by decide +kernel)
set_option maxRecDepth 20000 in
theorem gL_law_X0_persons : GoodIn wsL_law (wsV RL 92 RX0 yX0_persons wsX0_persons) := goodIn_app (goodIn_of _ (by decide +kernel)) ggL_law_X0_persons
set_option maxRecDepth 20000 in
theorem ggL_law_X0_slights : GoodIn wsL_law wsX0_slights := goodIn_r _ [239, 70, 383, 384, 385, 386, 387, 388, 389, 390, 391, 392, 393, 394] rfl (by decide +kernel)
set_option maxRecDepth 20000 in
theorem gL_law_X0_slights : GoodIn wsL_law (wsV RL 95 RX0 yX0_slights wsX0_slights) := goodIn_app (goodIn_of _ (by decide +kernel)) ggL_law_X0_slights
set_option maxRecDepth 20000 in
theorem ggL_law_X0_borneBy : GoodIn wsL_law wsX0_borneBy := goodIn_ca (goodIn_r _ [255, 70, 21, 19, 20, 71, 72, 73, 2, 74, 75, 76, 60, 383, 384, 385, 386, 387, 388, 389, 390, 391, 392, 393, 394] rfl (by decide +kernel)) (goodIn_sub (fun _ h => List.mem_append_right _ h) (by decide +kernel))
set_option maxRecDepth 20000 in
theorem gL_law_X0_borneBy : GoodIn wsL_law (wsV RL 97 RX0 yX0_borneBy wsX0_borneBy) := goodIn_app (goodIn_of _ (by decide +kernel)) ggL_law_X0_borneBy
set_option maxRecDepth 20000 in
theorem ggL_law_X0_owedBy : GoodIn wsL_law wsX0_owedBy := goodIn_ca (goodIn_r _ [279, 70, 21, 18, 20, 71, 72, 73, 2, 74, 75, 76, 60, 383, 384, 385, 386, 387, 388, 389, 390, 391, 392, 393, 394] rfl (by decide +kernel)) (goodIn_sub (fun _ h => List.mem_append_right _ h) (by decide +kernel))
set_option maxRecDepth 20000 in
theorem gL_law_X0_owedBy : GoodIn wsL_law (wsV RL 100 RX0 yX0_owedBy wsX0_owedBy) := goodIn_app (goodIn_of _ (by decide +kernel)) ggL_law_X0_owedBy
set_option maxRecDepth 20000 in
theorem ggL_law_X0_sorest : GoodIn wsL_law wsX0_sorest := goodIn_ca (goodIn_r _ [251, 60, 252, 253, 254, 2, 255, 70, 21, 19, 20, 71, 72, 73, 74, 75, 76, 383, 384, 385, 386, 387, 388, 389, 390, 391, 392, 393, 394] rfl (by decide +kernel)) (goodIn_sub (fun _ h => List.mem_append_right _ h) (by decide +kernel))
set_option maxRecDepth 20000 in
theorem gL_law_X0_sorest : GoodIn wsL_law (wsV RL 103 RX0 yX0_sorest wsX0_sorest) := goodIn_app (goodIn_of _ (by decide +kernel)) ggL_law_X0_sorest
set_option maxRecDepth 20000 in
theorem ggL_law_X0_balance : GoodIn wsL_law wsX0_balance := goodIn_ca (goodIn_r _ [320, 71, 72, 73, 2, 74, 75, 76, 60, 321, 322, 323, 324, 70, 21, 18, 19, 20, 383, 384, 385, 386, 387, 388, 389, 390, 391, 392, 393, 394] rfl (by decide +kernel)) (goodIn_sub (fun _ h => List.mem_append_right _ h) (by decide +kernel))
set_option maxRecDepth 20000 in
theorem gL_law_X0_balance : GoodIn wsL_law (wsV RL 106 RX0 yX0_balance wsX0_balance) := goodIn_app (goodIn_of _ (by decide +kernel)) ggL_law_X0_balance
set_option maxRecDepth 20000 in
theorem ggL_law_X0_weightOf : GoodIn wsL_law wsX0_weightOf := goodIn_ca (goodIn_r _ [190, 20, 101, 102, 103, 2, 104, 75, 76, 70, 383, 384, 385, 386, 387, 388, 389, 390, 391, 392, 393, 394] rfl (by decide +kernel)) (goodIn_sub (fun _ h => List.mem_append_right _ h) (by decide +kernel))
set_option maxRecDepth 20000 in
theorem gL_law_X0_weightOf : GoodIn wsL_law (wsV RL 109 RX0 yX0_weightOf wsX0_weightOf) := goodIn_app (goodIn_of _ (by decide +kernel)) ggL_law_X0_weightOf
set_option maxRecDepth 20000 in
theorem ggL_law_X0_stateOf : GoodIn wsL_law wsX0_stateOf := goodIn_ca (goodIn_r _ [140, 21, 101, 102, 103, 2, 104, 75, 76, 70, 383, 384, 385, 386, 387, 388, 389, 390, 391, 392, 393, 394] rfl (by decide +kernel)) (goodIn_sub (fun _ h => List.mem_append_right _ h) (by decide +kernel))
set_option maxRecDepth 20000 in
theorem gL_law_X0_stateOf : GoodIn wsL_law (wsV RL 112 RX0 yX0_stateOf wsX0_stateOf) := goodIn_app (goodIn_of _ (by decide +kernel)) ggL_law_X0_stateOf
set_option maxRecDepth 20000 in
theorem ggL_law_X0_quietFor : GoodIn wsL_law wsX0_quietFor := goodIn_ca (goodIn_r _ [303, 23, 101, 102, 103, 2, 104, 75, 76, 70, 383, 384, 385, 386, 387, 388, 389, 390, 391, 392, 393, 394] rfl (by decide +kernel)) (goodIn_sub (fun _ h => List.mem_append_right _ h) (by decide +kernel))
set_option maxRecDepth 20000 in
theorem gL_law_X0_quietFor : GoodIn wsL_law (wsV RL 115 RX0 yX0_quietFor wsX0_quietFor) := goodIn_app (goodIn_of _ (by decide +kernel)) ggL_law_X0_quietFor
set_option maxRecDepth 20000 in
theorem ggL_law_X0_heaviest : GoodIn wsL_law wsX0_heaviest := goodIn_r _ [263, 70, 21, 20, 383, 384, 385, 386, 387, 388, 389, 390, 391, 392, 393, 394] rfl (by decide +kernel)
set_option maxRecDepth 20000 in
theorem gL_law_X0_heaviest : GoodIn wsL_law (wsV RL 118 RX0 yX0_heaviest wsX0_heaviest) := goodIn_app (goodIn_of _ (by decide +kernel)) ggL_law_X0_heaviest
set_option maxRecDepth 20000 in
theorem ggL_law_X0_daysUntilForgotten : GoodIn wsL_law wsX0_daysUntilForgotten := goodIn_ca (goodIn_r _ [311, 21, 23, 101, 102, 103, 2, 104, 75, 76, 70, 383, 384, 385, 386, 387, 388, 389, 390, 391, 392, 393, 394] rfl (by decide +kernel)) (goodIn_sub (fun _ h => List.mem_append_right _ h) (by decide +kernel))
set_option maxRecDepth 20000 in
theorem gL_law_X0_daysUntilForgotten : GoodIn wsL_law (wsV RL 121 RX0 yX0_daysUntilForgotten wsX0_daysUntilForgotten) := goodIn_app (goodIn_of _ (by decide +kernel)) ggL_law_X0_daysUntilForgotten
set_option maxRecDepth 20000 in
theorem ggL_law_X0_wordsWanted : GoodIn wsL_law wsX0_wordsWanted := goodIn_ca (goodIn_r _ [307, 21, 20, 108, 109, 6, 110, 101, 102, 103, 2, 104, 75, 76, 70, 175, 176, 177, 178, 179, 180, 181, 182, 19, 183, 184, 185, 186, 15, 71, 72, 73, 74, 60, 187, 188, 189, 190, 167, 168, 169, 170, 171, 172, 173, 174, 17, 18, 383, 384, 385, 386, 387, 388, 389, 390, 391, 392, 393, 394] rfl (by decide +kernel)) (goodIn_sub (fun _ h => List.mem_append_right _ h) (by decide +kernel))
set_option maxRecDepth 20000 in
theorem gL_law_X0_wordsWanted : GoodIn wsL_law (wsV RL 124 RX0 yX0_wordsWanted wsX0_wordsWanted) := goodIn_app (goodIn_of _ (by decide +kernel)) ggL_law_X0_wordsWanted
set_option maxRecDepth 20000 in
theorem ggL_law_X0_borneFor : GoodIn wsL_law wsX0_borneFor := goodIn_ca (goodIn_r _ [299, 22, 101, 102, 103, 2, 104, 75, 76, 70, 383, 384, 385, 386, 387, 388, 389, 390, 391, 392, 393, 394] rfl (by decide +kernel)) (goodIn_sub (fun _ h => List.mem_append_right _ h) (by decide +kernel))
set_option maxRecDepth 20000 in
theorem gL_law_X0_borneFor : GoodIn wsL_law (wsV RL 127 RX0 yX0_borneFor wsX0_borneFor) := goodIn_app (goodIn_of _ (by decide +kernel)) ggL_law_X0_borneFor
set_option maxRecDepth 20000 in
theorem ggL_law_X0_witnessesFor : GoodIn wsL_law wsX0_witnessesFor := goodIn_ca (goodIn_r _ [174, 60, 17, 18, 19, 101, 102, 103, 2, 104, 75, 76, 70, 383, 384, 385, 386, 387, 388, 389, 390, 391, 392, 393, 394] rfl (by decide +kernel)) (goodIn_sub (fun _ h => List.mem_append_right _ h) (by decide +kernel))
set_option maxRecDepth 20000 in
theorem gL_law_X0_witnessesFor : GoodIn wsL_law (wsV RL 130 RX0 yX0_witnessesFor wsX0_witnessesFor) := goodIn_app (goodIn_of _ (by decide +kernel)) ggL_law_X0_witnessesFor
set_option maxRecDepth 20000 in
theorem ggL_law_X0_inHall : GoodIn wsL_law wsX0_inHall := goodIn_r _ [243, 60, 17, 383, 384, 385, 386, 387, 388, 389, 390, 391, 392, 393, 394] rfl (by decide +kernel)
set_option maxRecDepth 20000 in
theorem gL_law_X0_inHall : GoodIn wsL_law (wsV RL 133 RX0 yX0_inHall wsX0_inHall) := goodIn_app (goodIn_of _ (by decide +kernel)) ggL_law_X0_inHall
set_option maxRecDepth 20000 in
theorem ggL_law_X0_inState : GoodIn wsL_law wsX0_inState := goodIn_ca (goodIn_r _ [259, 64, 65, 70, 21, 383, 384, 385, 386, 387, 388, 389, 390, 391, 392, 393, 394] rfl (by decide +kernel)) (goodIn_sub (fun _ h => List.mem_append_left _ (List.mem_append_right _ h)) (by decide +kernel))
set_option maxRecDepth 20000 in
theorem gL_law_X0_inState : GoodIn wsL_law (wsV RL 136 RX0 yX0_inState wsX0_inState) := goodIn_app (goodIn_of _ (by decide +kernel)) ggL_law_X0_inState
set_option maxRecDepth 20000 in
theorem ggL_law_L_below : GoodIn wsL_law wsL_below := goodIn_r _ [44, 45] rfl (by decide +kernel)
set_option maxRecDepth 20000 in
theorem gL_law_L_below : GoodIn wsL_law (va_wsS RL 18 yL_below wsL_below) := goodIn_app (goodIn_of _ (by decide +kernel)) ggL_law_L_below
set_option maxRecDepth 20000 in
theorem ggL_law_X0_wouldBeScorned : GoodIn wsL_law wsX0_wouldBeScorned := goodIn_ca (goodIn_ca (goodIn_r _ [338, 21, 101, 102, 103, 2, 104, 75, 76, 70, 164, 165, 166, 64, 65, 167, 168, 169, 170, 171, 172, 173, 174, 60, 17, 18, 19, 175, 176, 177, 178, 108, 109, 6, 110, 179, 180, 181, 182, 183, 184, 185, 186, 15, 71, 72, 73, 74, 187, 188, 189, 190, 20, 383, 384, 385, 386, 387, 388, 389, 390, 391, 392, 393, 394] rfl (by decide +kernel)) (goodIn_sub (fun _ h => List.mem_append_right _ h) (by decide +kernel))) (goodIn_sub (fun _ h => List.mem_append_left _ (List.mem_append_right _ h)) (by decide +kernel))
set_option maxRecDepth 20000 in
theorem gL_law_X0_wouldBeScorned : GoodIn wsL_law (wsV RL 139 RX0 yX0_wouldBeScorned wsX0_wouldBeScorned) := goodIn_app (goodIn_of _ (by decide +kernel)) ggL_law_X0_wouldBeScorned
set_option maxRecDepth 20000 in
theorem ggL_law_X0_scorned : GoodIn wsL_law wsX0_scorned := goodIn_r _ [247, 163, 383, 384, 385, 386, 387, 388, 389, 390, 391, 392, 393, 394] rfl (by decide +kernel)
set_option maxRecDepth 20000 in
theorem gL_law_X0_scorned : GoodIn wsL_law (wsV RL 143 RX0 yX0_scorned wsX0_scorned) := goodIn_app (goodIn_of _ (by decide +kernel)) ggL_law_X0_scorned
set_option maxRecDepth 20000 in
theorem ggL_law_X0_apologize : GoodIn wsL_law wsX0_apologize := goodIn_ca (goodIn_ca (goodIn_ca (goodIn_r _ [162, 163, 20, 101, 102, 103, 2, 104, 75, 76, 70, 164, 165, 166, 64, 65, 133, 134, 135, 136, 58, 59, 137, 138, 139, 140, 21, 167, 168, 169, 170, 171, 172, 173, 174, 60, 17, 18, 19, 175, 176, 177, 178, 108, 109, 6, 110, 179, 180, 181, 182, 183, 184, 185, 186, 15, 71, 72, 73, 74, 187, 188, 189, 190, 141, 142, 143, 144, 111, 5, 7, 23, 191, 192, 193, 194, 112, 113, 114, 115, 383, 384, 385, 386, 387, 388, 389, 390, 391, 392, 393, 394] rfl (by decide +kernel)) (goodIn_sub (fun _ h => List.mem_append_right _ h) (by decide +kernel))) (goodIn_sub (fun _ h => List.mem_append_left _ (List.mem_append_right _ h)) (by decide +kernel))) (goodIn_sub (fun _ h => List.mem_append_left _ (List.mem_append_left _ (List.mem_append_right _ h))) (by decide +kernel))
set_option maxRecDepth 20000 in
theorem gL_law_X0_apologize : GoodIn wsL_law (wsV RL 60 RX0 yX0_apologize wsX0_apologize) := goodIn_app (goodIn_of _ (by decide +kernel)) ggL_law_X0_apologize
set_option maxRecDepth 20000 in
theorem ggL_law_X1_apologize : GoodIn wsL_law wsX1_apologize := goodIn_r _ [148, 149, 150, 151, 152, 30, 153, 36, 154, 155, 156, 157, 158, 126, 127, 128, 395, 396, 397, 398] rfl (by decide +kernel)
set_option maxRecDepth 20000 in
theorem gL_law_X1_apologize : GoodIn wsL_law (wsV RL 56 RX1 yX1_apologize wsX1_apologize) := goodIn_app (goodIn_of _ (by decide +kernel)) ggL_law_X1_apologize
set_option maxRecDepth 20000 in
theorem ggL_law_X1_areOpposite : GoodIn wsL_law wsX1_areOpposite := goodIn_r _ [198] rfl (by decide +kernel)
set_option maxRecDepth 20000 in
theorem gL_law_X1_areOpposite : GoodIn wsL_law (wsV RL 62 RX1 yX1_areOpposite wsX1_areOpposite) := goodIn_app (goodIn_of _ (by decide +kernel)) ggL_law_X1_areOpposite
set_option maxRecDepth 20000 in
theorem ggL_law_X0_offenderOf : GoodIn wsL_law wsX0_offenderOf := goodIn_ca (goodIn_r _ [214, 18, 101, 102, 103, 2, 104, 75, 76, 70, 383, 384, 385, 386, 387, 388, 389, 390, 391, 392, 393, 394] rfl (by decide +kernel)) (goodIn_sub (fun _ h => List.mem_append_right _ h) (by decide +kernel))
set_option maxRecDepth 20000 in
theorem gL_law_X0_offenderOf : GoodIn wsL_law (wsV RL 151 RX0 yX0_offenderOf wsX0_offenderOf) := goodIn_app (goodIn_of _ (by decide +kernel)) ggL_law_X0_offenderOf
set_option maxRecDepth 20000 in
theorem ggL_law_X0_offendedOf : GoodIn wsL_law wsX0_offendedOf := goodIn_ca (goodIn_r _ [182, 19, 101, 102, 103, 2, 104, 75, 76, 70, 383, 384, 385, 386, 387, 388, 389, 390, 391, 392, 393, 394] rfl (by decide +kernel)) (goodIn_sub (fun _ h => List.mem_append_right _ h) (by decide +kernel))
set_option maxRecDepth 20000 in
theorem gL_law_X0_offendedOf : GoodIn wsL_law (wsV RL 154 RX0 yX0_offendedOf wsX0_offendedOf) := goodIn_app (goodIn_of _ (by decide +kernel)) ggL_law_X0_offendedOf
set_option maxRecDepth 20000 in
theorem ggL_law_X0_setOff : GoodIn wsL_law wsX0_setOff := goodIn_ca (goodIn_ca (goodIn_r _ [206, 58, 59, 20, 111, 5, 6, 7, 101, 102, 103, 2, 104, 75, 76, 70, 133, 134, 135, 136, 137, 138, 139, 140, 21, 207, 208, 209, 210, 211, 212, 213, 214, 18, 179, 180, 181, 182, 19, 191, 192, 193, 194, 112, 113, 114, 115, 383, 384, 385, 386, 387, 388, 389, 390, 391, 392, 393, 394] rfl (by decide +kernel)) (goodIn_sub (fun _ h => List.mem_append_left _ (List.mem_append_left _ (List.mem_append_right _ h))) (by decide +kernel))) (goodIn_sub (fun _ h => List.mem_append_right _ h) (by decide +kernel))
set_option maxRecDepth 20000 in
theorem gL_law_X0_setOff : GoodIn wsL_law (wsV RL 70 RX0 yX0_setOff wsX0_setOff) := goodIn_app (goodIn_of _ (by decide +kernel)) ggL_law_X0_setOff
set_option maxRecDepth 20000 in
theorem ggL_law_X1_setOff : GoodIn wsL_law wsX1_setOff := goodIn_r _ [202] rfl (by decide +kernel)
set_option maxRecDepth 20000 in
theorem gL_law_X1_setOff : GoodIn wsL_law (wsV RL 66 RX1 yX1_setOff wsX1_setOff) := goodIn_app (goodIn_of _ (by decide +kernel)) ggL_law_X1_setOff
set_option maxRecDepth 20000 in
theorem ggL_law_X0_weightIn : GoodIn wsL_law wsX0_weightIn := goodIn_ca (goodIn_ca (goodIn_r _ [287, 21, 23, 20, 22, 101, 102, 103, 2, 104, 75, 76, 70, 89, 90, 91, 64, 65, 105, 106, 107, 108, 109, 6, 110, 111, 5, 7, 383, 384, 385, 386, 387, 388, 389, 390, 391, 392, 393, 394] rfl (by decide +kernel)) (goodIn_sub (fun _ h => List.mem_append_right _ h) (by decide +kernel))) (goodIn_sub (fun _ h => List.mem_append_left _ (List.mem_append_right _ h)) (by decide +kernel))
set_option maxRecDepth 20000 in
theorem gL_law_X0_weightIn : GoodIn wsL_law (wsV RL 157 RX0 yX0_weightIn wsX0_weightIn) := goodIn_app (goodIn_of _ (by decide +kernel)) ggL_law_X0_weightIn
set_option maxRecDepth 20000 in
theorem ggL_law_X0_borneIn : GoodIn wsL_law wsX0_borneIn := goodIn_ca (goodIn_ca (goodIn_r _ [283, 70, 19, 71, 72, 73, 2, 74, 75, 76, 60, 89, 90, 91, 64, 65, 284, 285, 286, 287, 21, 23, 20, 22, 101, 102, 103, 104, 105, 106, 107, 108, 109, 6, 110, 111, 5, 7, 383, 384, 385, 386, 387, 388, 389, 390, 391, 392, 393, 394] rfl (by decide +kernel)) (goodIn_sub (fun _ h => List.mem_append_right _ h) (by decide +kernel))) (goodIn_sub (fun _ h => List.mem_append_left _ (List.mem_append_right _ h)) (by decide +kernel))
set_option maxRecDepth 20000 in
theorem gL_law_X0_borneIn : GoodIn wsL_law (wsV RL 160 RX0 yX0_borneIn wsX0_borneIn) := goodIn_app (goodIn_of _ (by decide +kernel)) ggL_law_X0_borneIn
set_option maxRecDepth 20000 in
theorem ggL_law_X0_pass : GoodIn wsL_law wsX0_pass := goodIn_ca (goodIn_ca (goodIn_r _ [88, 89, 90, 2, 91, 64, 65, 92, 93, 94, 95, 70, 21, 96, 97, 98, 99, 100, 22, 23, 20, 101, 102, 103, 104, 75, 76, 105, 106, 107, 108, 109, 6, 110, 111, 5, 7, 112, 113, 114, 115, 383, 384, 385, 386, 387, 388, 389, 390, 391, 392, 393, 394] rfl (by decide +kernel)) (goodIn_sub (fun _ h => List.mem_append_left _ (List.mem_append_right _ h)) (by decide +kernel))) (goodIn_sub (fun _ h => List.mem_append_right _ h) (by decide +kernel))
set_option maxRecDepth 20000 in
theorem gL_law_X0_pass : GoodIn wsL_law (wsV RL 45 RX0 yX0_pass wsX0_pass) := goodIn_app (goodIn_of _ (by decide +kernel)) ggL_law_X0_pass
set_option maxRecDepth 20000 in
theorem ggL_law_X1_pass : GoodIn wsL_law wsX1_pass := goodIn_r _ [123, 37, 124, 395, 396, 397, 398] rfl (by decide +kernel)
set_option maxRecDepth 20000 in
theorem gL_law_X1_pass : GoodIn wsL_law (wsV RL 163 RX1 yX1_pass wsX1_pass) := goodIn_app (goodIn_of _ (by decide +kernel)) ggL_law_X1_pass
set_option maxRecDepth 20000 in
theorem ggL_law_X1_isSame : GoodIn wsL_law wsX1_isSame := goodIn_ca (goodIn_ca (goodIn_r _ [348, 36, 37, 124, 149, 349, 350, 351, 30, 352, 353, 273, 274, 2, 275, 17, 71, 72, 73, 74, 75, 76, 60, 354, 184, 185, 186, 15, 355, 253, 254, 255, 70, 21, 19, 20, 356, 277, 278, 279, 18, 357, 318, 319, 320, 321, 322, 323, 324, 358, 196, 197, 198, 359, 212, 213, 214, 101, 102, 103, 104, 360, 180, 181, 182, 361, 188, 189, 190, 362, 138, 139, 140, 363, 297, 298, 299, 22, 364, 301, 302, 303, 23, 365, 172, 173, 174, 154, 155, 156, 157, 366, 257, 258, 259, 64, 65, 367, 368, 369, 370, 371, 225, 226, 227, 96, 372, 233, 234, 235, 373, 237, 238, 239, 374, 241, 242, 243, 375, 245, 246, 247, 163, 376, 249, 250, 251, 252, 377, 261, 262, 263, 378, 265, 266, 267, 207, 208, 209, 210, 211, 179, 379, 380, 381, 382, 395, 396, 397, 398, 383, 384, 385, 386, 387, 388, 389, 390, 391, 392, 393, 394] rfl (by decide +kernel)) (goodIn_sub (fun _ h => List.mem_append_right _ h) (by decide +kernel))) (goodIn_sub (fun _ h => List.mem_append_left _ (List.mem_append_right _ h)) (by decide +kernel))
set_option maxRecDepth 20000 in
theorem gL_law_X1_isSame : GoodIn wsL_law (wsV RL 165 RX1 yX1_isSame wsX1_isSame) := goodIn_app (goodIn_of _ (by decide +kernel)) ggL_law_X1_isSame
theorem dL_law_0 : decode cL_law 0 = .ok (.new 29, 3) := by decide +kernel
theorem dL_law_3 : decode cL_law 3 = .ok (.dup, 1) := by decide +kernel
theorem dL_law_4 : decode cL_law 4 = .ok (.invokespecial 83, 3) := by decide +kernel
theorem dL_law_7 : decode cL_law 7 = .ok (.astore_n 1, 1) := by decide +kernel
theorem dL_law_8 : decode cL_law 8 = .ok (.aload_n 1, 1) := by decide +kernel
theorem dL_law_9 : decode cL_law 9 = .ok (.aload_n 0, 1) := by decide +kernel
theorem dL_law_10 : decode cL_law 10 = .ok (.invokestatic 84, 3) := by decide +kernel
theorem dL_law_13 : decode cL_law 13 = .ok (.astore_n 2, 1) := by decide +kernel
theorem dL_law_14 : decode cL_law 14 = .ok (.aload_n 2, 1) := by decide +kernel
theorem dL_law_15 : decode cL_law 15 = .ok (.ifnonnull 5, 3) := by decide +kernel
theorem dL_law_18 : decode cL_law 18 = .ok (.iconst 0, 1) := by decide +kernel
theorem dL_law_19 : decode cL_law 19 = .ok (.ireturn, 1) := by decide +kernel
theorem dL_law_20 : decode cL_law 20 = .ok (.iconst 0, 1) := by decide +kernel
theorem dL_law_21 : decode cL_law 21 = .ok (.istore_n 3, 1) := by decide +kernel
theorem dL_law_22 : decode cL_law 22 = .ok (.iload_n 3, 1) := by decide +kernel
theorem dL_law_23 : decode cL_law 23 = .ok (.bipush 8, 2) := by decide +kernel
theorem dL_law_25 : decode cL_law 25 = .ok (.if_icmp .ge 1208, 3) := by decide +kernel
theorem dL_law_28 : decode cL_law 28 = .ok (.aload_n 0, 1) := by decide +kernel
theorem dL_law_29 : decode cL_law 29 = .ok (.iload_n 3, 1) := by decide +kernel
theorem dL_law_30 : decode cL_law 30 = .ok (.iconst 1, 1) := by decide +kernel
theorem dL_law_31 : decode cL_law 31 = .ok (.iadd, 1) := by decide +kernel
theorem dL_law_32 : decode cL_law 32 = .ok (.invokestatic 75, 3) := by decide +kernel
theorem dL_law_35 : decode cL_law 35 = .ok (.iconst 2, 1) := by decide +kernel
theorem dL_law_36 : decode cL_law 36 = .ok (.ishr, 1) := by decide +kernel
theorem dL_law_37 : decode cL_law 37 = .ok (.bipush 53, 2) := by decide +kernel
theorem dL_law_39 : decode cL_law 39 = .ok (.iload_n 3, 1) := by decide +kernel
theorem dL_law_40 : decode cL_law 40 = .ok (.imul, 1) := by decide +kernel
theorem dL_law_41 : decode cL_law 41 = .ok (.iadd, 1) := by decide +kernel
theorem dL_law_42 : decode cL_law 42 = .ok (.istore 4, 2) := by decide +kernel
theorem dL_law_44 : decode cL_law 44 = .ok (.iconst 0, 1) := by decide +kernel
theorem dL_law_45 : decode cL_law 45 = .ok (.istore 5, 2) := by decide +kernel
theorem dL_law_47 : decode cL_law 47 = .ok (.iload 5, 2) := by decide +kernel
theorem dL_law_49 : decode cL_law 49 = .ok (.iconst 3, 1) := by decide +kernel
theorem dL_law_50 : decode cL_law 50 = .ok (.if_icmp .ge 32, 3) := by decide +kernel
theorem dL_law_53 : decode cL_law 53 = .ok (.aload_n 1, 1) := by decide +kernel
theorem dL_law_54 : decode cL_law 54 = .ok (.aload_n 2, 1) := by decide +kernel
theorem dL_law_55 : decode cL_law 55 = .ok (.iload 4, 2) := by decide +kernel
theorem dL_law_57 : decode cL_law 57 = .ok (.iconst 3, 1) := by decide +kernel
theorem dL_law_58 : decode cL_law 58 = .ok (.iload 5, 2) := by decide +kernel
theorem dL_law_60 : decode cL_law 60 = .ok (.imul, 1) := by decide +kernel
theorem dL_law_61 : decode cL_law 61 = .ok (.ishr, 1) := by decide +kernel
theorem dL_law_62 : decode cL_law 62 = .ok (.bipush 29, 2) := by decide +kernel
theorem dL_law_64 : decode cL_law 64 = .ok (.iload 5, 2) := by decide +kernel
theorem dL_law_66 : decode cL_law 66 = .ok (.imul, 1) := by decide +kernel
theorem dL_law_67 : decode cL_law 67 = .ok (.iadd, 1) := by decide +kernel
theorem dL_law_68 : decode cL_law 68 = .ok (.invokestatic 79, 3) := by decide +kernel
theorem dL_law_71 : decode cL_law 71 = .ok (.ifCond .ne 5, 3) := by decide +kernel
theorem dL_law_74 : decode cL_law 74 = .ok (.iconst 0, 1) := by decide +kernel
theorem dL_law_75 : decode cL_law 75 = .ok (.ireturn, 1) := by decide +kernel
theorem dL_law_76 : decode cL_law 76 = .ok (.iinc 5 1, 3) := by decide +kernel
theorem dL_law_79 : decode cL_law 79 = .ok (.goto (-32), 3) := by decide +kernel
theorem dL_law_82 : decode cL_law 82 = .ok (.aload_n 1, 1) := by decide +kernel
theorem dL_law_83 : decode cL_law 83 = .ok (.invokevirtual 88, 3) := by decide +kernel
theorem dL_law_86 : decode cL_law 86 = .ok (.lstore 5, 2) := by decide +kernel
theorem dL_law_88 : decode cL_law 88 = .ok (.aload_n 1, 1) := by decide +kernel
theorem dL_law_89 : decode cL_law 89 = .ok (.invokevirtual 92, 3) := by decide +kernel
theorem dL_law_92 : decode cL_law 92 = .ok (.istore 7, 2) := by decide +kernel
theorem dL_law_94 : decode cL_law 94 = .ok (.aload_n 1, 1) := by decide +kernel
theorem dL_law_95 : decode cL_law 95 = .ok (.invokevirtual 95, 3) := by decide +kernel
theorem dL_law_98 : decode cL_law 98 = .ok (.istore 8, 2) := by decide +kernel
theorem dL_law_100 : decode cL_law 100 = .ok (.iconst 0, 1) := by decide +kernel
theorem dL_law_101 : decode cL_law 101 = .ok (.istore 9, 2) := by decide +kernel
theorem dL_law_103 : decode cL_law 103 = .ok (.iconst 0, 1) := by decide +kernel
theorem dL_law_104 : decode cL_law 104 = .ok (.istore 10, 2) := by decide +kernel
theorem dL_law_106 : decode cL_law 106 = .ok (.iconst 0, 1) := by decide +kernel
theorem dL_law_107 : decode cL_law 107 = .ok (.istore 11, 2) := by decide +kernel
theorem dL_law_109 : decode cL_law 109 = .ok (.iload 11, 2) := by decide +kernel
theorem dL_law_111 : decode cL_law 111 = .ok (.iload 7, 2) := by decide +kernel
theorem dL_law_113 : decode cL_law 113 = .ok (.if_icmp .ge 88, 3) := by decide +kernel
theorem dL_law_116 : decode cL_law 116 = .ok (.iload 9, 2) := by decide +kernel
theorem dL_law_118 : decode cL_law 118 = .ok (.aload_n 1, 1) := by decide +kernel
theorem dL_law_119 : decode cL_law 119 = .ok (.iload 11, 2) := by decide +kernel
theorem dL_law_121 : decode cL_law 121 = .ok (.invokevirtual 97, 3) := by decide +kernel
theorem dL_law_124 : decode cL_law 124 = .ok (.iadd, 1) := by decide +kernel
theorem dL_law_125 : decode cL_law 125 = .ok (.istore 9, 2) := by decide +kernel
theorem dL_law_127 : decode cL_law 127 = .ok (.iload 10, 2) := by decide +kernel
theorem dL_law_129 : decode cL_law 129 = .ok (.aload_n 1, 1) := by decide +kernel
theorem dL_law_130 : decode cL_law 130 = .ok (.iload 11, 2) := by decide +kernel
theorem dL_law_132 : decode cL_law 132 = .ok (.invokevirtual 100, 3) := by decide +kernel
theorem dL_law_135 : decode cL_law 135 = .ok (.iadd, 1) := by decide +kernel
theorem dL_law_136 : decode cL_law 136 = .ok (.istore 10, 2) := by decide +kernel
theorem dL_law_138 : decode cL_law 138 = .ok (.aload_n 1, 1) := by decide +kernel
theorem dL_law_139 : decode cL_law 139 = .ok (.iload 11, 2) := by decide +kernel
theorem dL_law_141 : decode cL_law 141 = .ok (.invokevirtual 97, 3) := by decide +kernel
theorem dL_law_144 : decode cL_law 144 = .ok (.aload_n 1, 1) := by decide +kernel
theorem dL_law_145 : decode cL_law 145 = .ok (.aload_n 1, 1) := by decide +kernel
theorem dL_law_146 : decode cL_law 146 = .ok (.invokevirtual 103, 3) := by decide +kernel
theorem dL_law_149 : decode cL_law 149 = .ok (.invokevirtual 97, 3) := by decide +kernel
theorem dL_law_152 : decode cL_law 152 = .ok (.if_icmp .le 5, 3) := by decide +kernel
theorem dL_law_155 : decode cL_law 155 = .ok (.iconst 0, 1) := by decide +kernel
theorem dL_law_156 : decode cL_law 156 = .ok (.ireturn, 1) := by decide +kernel
theorem dL_law_157 : decode cL_law 157 = .ok (.iconst 0, 1) := by decide +kernel
theorem dL_law_158 : decode cL_law 158 = .ok (.istore 12, 2) := by decide +kernel
theorem dL_law_160 : decode cL_law 160 = .ok (.iload 12, 2) := by decide +kernel
theorem dL_law_162 : decode cL_law 162 = .ok (.iload 7, 2) := by decide +kernel
theorem dL_law_164 : decode cL_law 164 = .ok (.if_icmp .ge 31, 3) := by decide +kernel
theorem dL_law_167 : decode cL_law 167 = .ok (.aload_n 1, 1) := by decide +kernel
theorem dL_law_168 : decode cL_law 168 = .ok (.iload 11, 2) := by decide +kernel
theorem dL_law_170 : decode cL_law 170 = .ok (.iload 12, 2) := by decide +kernel
theorem dL_law_172 : decode cL_law 172 = .ok (.invokevirtual 106, 3) := by decide +kernel
theorem dL_law_175 : decode cL_law 175 = .ok (.aload_n 1, 1) := by decide +kernel
theorem dL_law_176 : decode cL_law 176 = .ok (.iload 12, 2) := by decide +kernel
theorem dL_law_178 : decode cL_law 178 = .ok (.iload 11, 2) := by decide +kernel
theorem dL_law_180 : decode cL_law 180 = .ok (.invokevirtual 106, 3) := by decide +kernel
theorem dL_law_183 : decode cL_law 183 = .ok (.ineg, 1) := by decide +kernel
theorem dL_law_184 : decode cL_law 184 = .ok (.if_icmp .eq 5, 3) := by decide +kernel
theorem dL_law_187 : decode cL_law 187 = .ok (.iconst 0, 1) := by decide +kernel
theorem dL_law_188 : decode cL_law 188 = .ok (.ireturn, 1) := by decide +kernel
theorem dL_law_189 : decode cL_law 189 = .ok (.iinc 12 1, 3) := by decide +kernel
theorem dL_law_192 : decode cL_law 192 = .ok (.goto (-32), 3) := by decide +kernel
theorem dL_law_195 : decode cL_law 195 = .ok (.iinc 11 1, 3) := by decide +kernel
theorem dL_law_198 : decode cL_law 198 = .ok (.goto (-89), 3) := by decide +kernel
theorem dL_law_201 : decode cL_law 201 = .ok (.iconst 0, 1) := by decide +kernel
theorem dL_law_202 : decode cL_law 202 = .ok (.istore 11, 2) := by decide +kernel
theorem dL_law_204 : decode cL_law 204 = .ok (.iconst 0, 1) := by decide +kernel
theorem dL_law_205 : decode cL_law 205 = .ok (.istore 12, 2) := by decide +kernel
theorem dL_law_207 : decode cL_law 207 = .ok (.iload 12, 2) := by decide +kernel
theorem dL_law_209 : decode cL_law 209 = .ok (.iload 8, 2) := by decide +kernel
theorem dL_law_211 : decode cL_law 211 = .ok (.if_icmp .ge 165, 3) := by decide +kernel
theorem dL_law_214 : decode cL_law 214 = .ok (.aload_n 1, 1) := by decide +kernel
theorem dL_law_215 : decode cL_law 215 = .ok (.iload 12, 2) := by decide +kernel
theorem dL_law_217 : decode cL_law 217 = .ok (.invokevirtual 109, 3) := by decide +kernel
theorem dL_law_220 : decode cL_law 220 = .ok (.istore 13, 2) := by decide +kernel
theorem dL_law_222 : decode cL_law 222 = .ok (.aload_n 1, 1) := by decide +kernel
theorem dL_law_223 : decode cL_law 223 = .ok (.iload 12, 2) := by decide +kernel
theorem dL_law_225 : decode cL_law 225 = .ok (.invokevirtual 112, 3) := by decide +kernel
theorem dL_law_228 : decode cL_law 228 = .ok (.ifCond .ne 7, 3) := by decide +kernel
theorem dL_law_231 : decode cL_law 231 = .ok (.iconst 1, 1) := by decide +kernel
theorem dL_law_232 : decode cL_law 232 = .ok (.goto 4, 3) := by decide +kernel
theorem dL_law_235 : decode cL_law 235 = .ok (.iconst 0, 1) := by decide +kernel
theorem dL_law_236 : decode cL_law 236 = .ok (.istore 14, 2) := by decide +kernel
theorem dL_law_238 : decode cL_law 238 = .ok (.iload 11, 2) := by decide +kernel
theorem dL_law_240 : decode cL_law 240 = .ok (.iload 13, 2) := by decide +kernel
theorem dL_law_242 : decode cL_law 242 = .ok (.iadd, 1) := by decide +kernel
theorem dL_law_243 : decode cL_law 243 = .ok (.istore 11, 2) := by decide +kernel
theorem dL_law_245 : decode cL_law 245 = .ok (.iload 14, 2) := by decide +kernel
theorem dL_law_247 : decode cL_law 247 = .ok (.ifCond .eq 43, 3) := by decide +kernel
theorem dL_law_250 : decode cL_law 250 = .ok (.iload 13, 2) := by decide +kernel
theorem dL_law_252 : decode cL_law 252 = .ok (.iconst 1, 1) := by decide +kernel
theorem dL_law_253 : decode cL_law 253 = .ok (.if_icmp .lt 62, 3) := by decide +kernel
theorem dL_law_256 : decode cL_law 256 = .ok (.iload 13, 2) := by decide +kernel
theorem dL_law_258 : decode cL_law 258 = .ok (.bipush 99, 2) := by decide +kernel
theorem dL_law_260 : decode cL_law 260 = .ok (.if_icmp .gt 55, 3) := by decide +kernel
theorem dL_law_263 : decode cL_law 263 = .ok (.aload_n 1, 1) := by decide +kernel
theorem dL_law_264 : decode cL_law 264 = .ok (.iload 12, 2) := by decide +kernel
theorem dL_law_266 : decode cL_law 266 = .ok (.invokevirtual 115, 3) := by decide +kernel
theorem dL_law_269 : decode cL_law 269 = .ok (.bipush 29, 2) := by decide +kernel
theorem dL_law_271 : decode cL_law 271 = .ok (.if_icmp .gt 44, 3) := by decide +kernel
theorem dL_law_274 : decode cL_law 274 = .ok (.iload 13, 2) := by decide +kernel
theorem dL_law_276 : decode cL_law 276 = .ok (.aload_n 1, 1) := by decide +kernel
theorem dL_law_277 : decode cL_law 277 = .ok (.aload_n 1, 1) := by decide +kernel
theorem dL_law_278 : decode cL_law 278 = .ok (.invokevirtual 118, 3) := by decide +kernel
theorem dL_law_281 : decode cL_law 281 = .ok (.invokevirtual 109, 3) := by decide +kernel
theorem dL_law_284 : decode cL_law 284 = .ok (.if_icmp .le 33, 3) := by decide +kernel
theorem dL_law_287 : decode cL_law 287 = .ok (.goto 28, 3) := by decide +kernel
theorem dL_law_290 : decode cL_law 290 = .ok (.iload 13, 2) := by decide +kernel
theorem dL_law_292 : decode cL_law 292 = .ok (.ifCond .ne 23, 3) := by decide +kernel
theorem dL_law_295 : decode cL_law 295 = .ok (.aload_n 1, 1) := by decide +kernel
theorem dL_law_296 : decode cL_law 296 = .ok (.iload 12, 2) := by decide +kernel
theorem dL_law_298 : decode cL_law 298 = .ok (.invokevirtual 121, 3) := by decide +kernel
theorem dL_law_301 : decode cL_law 301 = .ok (.iconst (-1), 1) := by decide +kernel
theorem dL_law_302 : decode cL_law 302 = .ok (.if_icmp .ne 13, 3) := by decide +kernel
theorem dL_law_305 : decode cL_law 305 = .ok (.aload_n 1, 1) := by decide +kernel
theorem dL_law_306 : decode cL_law 306 = .ok (.iload 12, 2) := by decide +kernel
theorem dL_law_308 : decode cL_law 308 = .ok (.invokevirtual 124, 3) := by decide +kernel
theorem dL_law_311 : decode cL_law 311 = .ok (.iconst (-1), 1) := by decide +kernel
theorem dL_law_312 : decode cL_law 312 = .ok (.if_icmp .eq 5, 3) := by decide +kernel
theorem dL_law_315 : decode cL_law 315 = .ok (.iconst 0, 1) := by decide +kernel
theorem dL_law_316 : decode cL_law 316 = .ok (.ireturn, 1) := by decide +kernel
theorem dL_law_317 : decode cL_law 317 = .ok (.aload_n 1, 1) := by decide +kernel
theorem dL_law_318 : decode cL_law 318 = .ok (.iload 12, 2) := by decide +kernel
theorem dL_law_320 : decode cL_law 320 = .ok (.invokevirtual 115, 3) := by decide +kernel
theorem dL_law_323 : decode cL_law 323 = .ok (.aload_n 1, 1) := by decide +kernel
theorem dL_law_324 : decode cL_law 324 = .ok (.iload 12, 2) := by decide +kernel
theorem dL_law_326 : decode cL_law 326 = .ok (.invokevirtual 127, 3) := by decide +kernel
theorem dL_law_329 : decode cL_law 329 = .ok (.if_icmp .gt 39, 3) := by decide +kernel
theorem dL_law_332 : decode cL_law 332 = .ok (.aload_n 1, 1) := by decide +kernel
theorem dL_law_333 : decode cL_law 333 = .ok (.iload 12, 2) := by decide +kernel
theorem dL_law_335 : decode cL_law 335 = .ok (.invokevirtual 130, 3) := by decide +kernel
theorem dL_law_338 : decode cL_law 338 = .ok (.aload_n 1, 1) := by decide +kernel
theorem dL_law_339 : decode cL_law 339 = .ok (.invokevirtual 133, 3) := by decide +kernel
theorem dL_law_342 : decode cL_law 342 = .ok (.if_icmp .gt 26, 3) := by decide +kernel
theorem dL_law_345 : decode cL_law 345 = .ok (.iload 14, 2) := by decide +kernel
theorem dL_law_347 : decode cL_law 347 = .ok (.ifCond .eq 23, 3) := by decide +kernel
theorem dL_law_350 : decode cL_law 350 = .ok (.aload_n 1, 1) := by decide +kernel
theorem dL_law_351 : decode cL_law 351 = .ok (.iload 12, 2) := by decide +kernel
theorem dL_law_353 : decode cL_law 353 = .ok (.invokevirtual 121, 3) := by decide +kernel
theorem dL_law_356 : decode cL_law 356 = .ok (.aload_n 1, 1) := by decide +kernel
theorem dL_law_357 : decode cL_law 357 = .ok (.iload 12, 2) := by decide +kernel
theorem dL_law_359 : decode cL_law 359 = .ok (.invokevirtual 115, 3) := by decide +kernel
theorem dL_law_362 : decode cL_law 362 = .ok (.iadd, 1) := by decide +kernel
theorem dL_law_363 : decode cL_law 363 = .ok (.bipush 30, 2) := by decide +kernel
theorem dL_law_365 : decode cL_law 365 = .ok (.if_icmp .eq 5, 3) := by decide +kernel
theorem dL_law_368 : decode cL_law 368 = .ok (.iconst 0, 1) := by decide +kernel
theorem dL_law_369 : decode cL_law 369 = .ok (.ireturn, 1) := by decide +kernel
theorem dL_law_370 : decode cL_law 370 = .ok (.iinc 12 1, 3) := by decide +kernel
theorem dL_law_373 : decode cL_law 373 = .ok (.goto (-166), 3) := by decide +kernel
theorem dL_law_376 : decode cL_law 376 = .ok (.iload 9, 2) := by decide +kernel
theorem dL_law_378 : decode cL_law 378 = .ok (.iload 11, 2) := by decide +kernel
theorem dL_law_380 : decode cL_law 380 = .ok (.if_icmp .ne 76, 3) := by decide +kernel
theorem dL_law_383 : decode cL_law 383 = .ok (.iload 10, 2) := by decide +kernel
theorem dL_law_385 : decode cL_law 385 = .ok (.iload 11, 2) := by decide +kernel
theorem dL_law_387 : decode cL_law 387 = .ok (.if_icmp .ne 69, 3) := by decide +kernel
theorem dL_law_390 : decode cL_law 390 = .ok (.aload_n 1, 1) := by decide +kernel
theorem dL_law_391 : decode cL_law 391 = .ok (.iconst 0, 1) := by decide +kernel
theorem dL_law_392 : decode cL_law 392 = .ok (.invokevirtual 136, 3) := by decide +kernel
theorem dL_law_395 : decode cL_law 395 = .ok (.aload_n 1, 1) := by decide +kernel
theorem dL_law_396 : decode cL_law 396 = .ok (.iconst 1, 1) := by decide +kernel
theorem dL_law_397 : decode cL_law 397 = .ok (.invokevirtual 136, 3) := by decide +kernel
theorem dL_law_400 : decode cL_law 400 = .ok (.iadd, 1) := by decide +kernel
theorem dL_law_401 : decode cL_law 401 = .ok (.aload_n 1, 1) := by decide +kernel
theorem dL_law_402 : decode cL_law 402 = .ok (.iconst 2, 1) := by decide +kernel
theorem dL_law_403 : decode cL_law 403 = .ok (.invokevirtual 136, 3) := by decide +kernel
theorem dL_law_406 : decode cL_law 406 = .ok (.iadd, 1) := by decide +kernel
theorem dL_law_407 : decode cL_law 407 = .ok (.aload_n 1, 1) := by decide +kernel
theorem dL_law_408 : decode cL_law 408 = .ok (.iconst 3, 1) := by decide +kernel
theorem dL_law_409 : decode cL_law 409 = .ok (.invokevirtual 136, 3) := by decide +kernel
theorem dL_law_412 : decode cL_law 412 = .ok (.iadd, 1) := by decide +kernel
theorem dL_law_413 : decode cL_law 413 = .ok (.iload 8, 2) := by decide +kernel
theorem dL_law_415 : decode cL_law 415 = .ok (.if_icmp .ne 41, 3) := by decide +kernel
theorem dL_law_418 : decode cL_law 418 = .ok (.aload_n 1, 1) := by decide +kernel
theorem dL_law_419 : decode cL_law 419 = .ok (.invokevirtual 118, 3) := by decide +kernel
theorem dL_law_422 : decode cL_law 422 = .ok (.ifCond .ge 7, 3) := by decide +kernel
theorem dL_law_425 : decode cL_law 425 = .ok (.iconst 1, 1) := by decide +kernel
theorem dL_law_426 : decode cL_law 426 = .ok (.goto 4, 3) := by decide +kernel
theorem dL_law_429 : decode cL_law 429 = .ok (.iconst 0, 1) := by decide +kernel
theorem dL_law_430 : decode cL_law 430 = .ok (.aload_n 1, 1) := by decide +kernel
theorem dL_law_431 : decode cL_law 431 = .ok (.iconst 0, 1) := by decide +kernel
theorem dL_law_432 : decode cL_law 432 = .ok (.invokevirtual 136, 3) := by decide +kernel
theorem dL_law_435 : decode cL_law 435 = .ok (.ifCond .ne 7, 3) := by decide +kernel
theorem dL_law_438 : decode cL_law 438 = .ok (.iconst 1, 1) := by decide +kernel
theorem dL_law_439 : decode cL_law 439 = .ok (.goto 4, 3) := by decide +kernel
theorem dL_law_442 : decode cL_law 442 = .ok (.iconst 0, 1) := by decide +kernel
theorem dL_law_443 : decode cL_law 443 = .ok (.if_icmp .ne 13, 3) := by decide +kernel
theorem dL_law_446 : decode cL_law 446 = .ok (.aload_n 1, 1) := by decide +kernel
theorem dL_law_447 : decode cL_law 447 = .ok (.invokevirtual 88, 3) := by decide +kernel
theorem dL_law_450 : decode cL_law 450 = .ok (.lload 5, 2) := by decide +kernel
theorem dL_law_452 : decode cL_law 452 = .ok (.lcmp, 1) := by decide +kernel
theorem dL_law_453 : decode cL_law 453 = .ok (.ifCond .eq 5, 3) := by decide +kernel
theorem dL_law_456 : decode cL_law 456 = .ok (.iconst 0, 1) := by decide +kernel
theorem dL_law_457 : decode cL_law 457 = .ok (.ireturn, 1) := by decide +kernel
theorem dL_law_458 : decode cL_law 458 = .ok (.iload 8, 2) := by decide +kernel
theorem dL_law_460 : decode cL_law 460 = .ok (.ifCond .le 261, 3) := by decide +kernel
theorem dL_law_463 : decode cL_law 463 = .ok (.aload_n 1, 1) := by decide +kernel
theorem dL_law_464 : decode cL_law 464 = .ok (.iload 4, 2) := by decide +kernel
theorem dL_law_466 : decode cL_law 466 = .ok (.iconst 4, 1) := by decide +kernel
theorem dL_law_467 : decode cL_law 467 = .ok (.ishr, 1) := by decide +kernel
theorem dL_law_468 : decode cL_law 468 = .ok (.iload 8, 2) := by decide +kernel
theorem dL_law_470 : decode cL_law 470 = .ok (.invokestatic 18, 3) := by decide +kernel
theorem dL_law_473 : decode cL_law 473 = .ok (.invokevirtual 112, 3) := by decide +kernel
theorem dL_law_476 : decode cL_law 476 = .ok (.ifCond .ne 245, 3) := by decide +kernel
theorem dL_law_479 : decode cL_law 479 = .ok (.iload 4, 2) := by decide +kernel
theorem dL_law_481 : decode cL_law 481 = .ok (.iconst 4, 1) := by decide +kernel
theorem dL_law_482 : decode cL_law 482 = .ok (.ishr, 1) := by decide +kernel
theorem dL_law_483 : decode cL_law 483 = .ok (.iload 8, 2) := by decide +kernel
theorem dL_law_485 : decode cL_law 485 = .ok (.invokestatic 18, 3) := by decide +kernel
theorem dL_law_488 : decode cL_law 488 = .ok (.istore 12, 2) := by decide +kernel
theorem dL_law_490 : decode cL_law 490 = .ok (.aload_n 1, 1) := by decide +kernel
theorem dL_law_491 : decode cL_law 491 = .ok (.iload 12, 2) := by decide +kernel
theorem dL_law_493 : decode cL_law 493 = .ok (.invokevirtual 124, 3) := by decide +kernel
theorem dL_law_496 : decode cL_law 496 = .ok (.istore 13, 2) := by decide +kernel
theorem dL_law_498 : decode cL_law 498 = .ok (.iload 13, 2) := by decide +kernel
theorem dL_law_500 : decode cL_law 500 = .ok (.iconst 1, 1) := by decide +kernel
theorem dL_law_501 : decode cL_law 501 = .ok (.if_icmp .le 21, 3) := by decide +kernel
theorem dL_law_504 : decode cL_law 504 = .ok (.iload 4, 2) := by decide +kernel
theorem dL_law_506 : decode cL_law 506 = .ok (.iconst 2, 1) := by decide +kernel
theorem dL_law_507 : decode cL_law 507 = .ok (.ishr, 1) := by decide +kernel
theorem dL_law_508 : decode cL_law 508 = .ok (.iconst 3, 1) := by decide +kernel
theorem dL_law_509 : decode cL_law 509 = .ok (.invokestatic 18, 3) := by decide +kernel
theorem dL_law_512 : decode cL_law 512 = .ok (.ifCond .ne 10, 3) := by decide +kernel
theorem dL_law_515 : decode cL_law 515 = .ok (.iload 13, 2) := by decide +kernel
theorem dL_law_517 : decode cL_law 517 = .ok (.iconst 1, 1) := by decide +kernel
theorem dL_law_518 : decode cL_law 518 = .ok (.isub, 1) := by decide +kernel
theorem dL_law_519 : decode cL_law 519 = .ok (.goto 37, 3) := by decide +kernel
theorem dL_law_522 : decode cL_law 522 = .ok (.iload 13, 2) := by decide +kernel
theorem dL_law_524 : decode cL_law 524 = .ok (.ifCond .le 20, 3) := by decide +kernel
theorem dL_law_527 : decode cL_law 527 = .ok (.iload 4, 2) := by decide +kernel
theorem dL_law_529 : decode cL_law 529 = .ok (.iconst 2, 1) := by decide +kernel
theorem dL_law_530 : decode cL_law 530 = .ok (.ishr, 1) := by decide +kernel
theorem dL_law_531 : decode cL_law 531 = .ok (.iconst 3, 1) := by decide +kernel
theorem dL_law_532 : decode cL_law 532 = .ok (.invokestatic 18, 3) := by decide +kernel
theorem dL_law_535 : decode cL_law 535 = .ok (.iconst 1, 1) := by decide +kernel
theorem dL_law_536 : decode cL_law 536 = .ok (.if_icmp .ne 8, 3) := by decide +kernel
theorem dL_law_539 : decode cL_law 539 = .ok (.iload 13, 2) := by decide +kernel
theorem dL_law_541 : decode cL_law 541 = .ok (.goto 15, 3) := by decide +kernel
theorem dL_law_544 : decode cL_law 544 = .ok (.iconst 1, 1) := by decide +kernel
theorem dL_law_545 : decode cL_law 545 = .ok (.iload 4, 2) := by decide +kernel
theorem dL_law_547 : decode cL_law 547 = .ok (.bipush 6, 2) := by decide +kernel
theorem dL_law_549 : decode cL_law 549 = .ok (.ishr, 1) := by decide +kernel
theorem dL_law_550 : decode cL_law 550 = .ok (.bipush 20, 2) := by decide +kernel
theorem dL_law_552 : decode cL_law 552 = .ok (.invokestatic 18, 3) := by decide +kernel
theorem dL_law_555 : decode cL_law 555 = .ok (.iadd, 1) := by decide +kernel
theorem dL_law_556 : decode cL_law 556 = .ok (.istore 14, 2) := by decide +kernel
theorem dL_law_558 : decode cL_law 558 = .ok (.aload_n 1, 1) := by decide +kernel
theorem dL_law_559 : decode cL_law 559 = .ok (.iload 12, 2) := by decide +kernel
theorem dL_law_561 : decode cL_law 561 = .ok (.iload 14, 2) := by decide +kernel
theorem dL_law_563 : decode cL_law 563 = .ok (.invokevirtual 139, 3) := by decide +kernel
theorem dL_law_566 : decode cL_law 566 = .ok (.istore 15, 2) := by decide +kernel
theorem dL_law_568 : decode cL_law 568 = .ok (.aload_n 1, 1) := by decide +kernel
theorem dL_law_569 : decode cL_law 569 = .ok (.iload 12, 2) := by decide +kernel
theorem dL_law_571 : decode cL_law 571 = .ok (.invokevirtual 109, 3) := by decide +kernel
theorem dL_law_574 : decode cL_law 574 = .ok (.istore 16, 2) := by decide +kernel
theorem dL_law_576 : decode cL_law 576 = .ok (.aload_n 1, 1) := by decide +kernel
theorem dL_law_577 : decode cL_law 577 = .ok (.invokevirtual 143, 3) := by decide +kernel
theorem dL_law_580 : decode cL_law 580 = .ok (.istore 17, 2) := by decide +kernel
theorem dL_law_582 : decode cL_law 582 = .ok (.aload_n 1, 1) := by decide +kernel
theorem dL_law_583 : decode cL_law 583 = .ok (.iload 12, 2) := by decide +kernel
theorem dL_law_585 : decode cL_law 585 = .ok (.iload 14, 2) := by decide +kernel
theorem dL_law_587 : decode cL_law 587 = .ok (.invokevirtual 60, 3) := by decide +kernel
theorem dL_law_590 : decode cL_law 590 = .ok (.istore 18, 2) := by decide +kernel
theorem dL_law_592 : decode cL_law 592 = .ok (.iload 18, 2) := by decide +kernel
theorem dL_law_594 : decode cL_law 594 = .ok (.aload_n 2, 1) := by decide +kernel
theorem dL_law_595 : decode cL_law 595 = .ok (.aload_n 2, 1) := by decide +kernel
theorem dL_law_596 : decode cL_law 596 = .ok (.getfield 15, 3) := by decide +kernel
theorem dL_law_599 : decode cL_law 599 = .ok (.iload 12, 2) := by decide +kernel
theorem dL_law_601 : decode cL_law 601 = .ok (.aaload, 1) := by decide +kernel
theorem dL_law_602 : decode cL_law 602 = .ok (.iload 14, 2) := by decide +kernel
theorem dL_law_604 : decode cL_law 604 = .ok (.invokevirtual 56, 3) := by decide +kernel
theorem dL_law_607 : decode cL_law 607 = .ok (.if_icmp .ne 112, 3) := by decide +kernel
theorem dL_law_610 : decode cL_law 610 = .ok (.iload 18, 2) := by decide +kernel
theorem dL_law_612 : decode cL_law 612 = .ok (.ifCond .ne 7, 3) := by decide +kernel
theorem dL_law_615 : decode cL_law 615 = .ok (.iconst 1, 1) := by decide +kernel
theorem dL_law_616 : decode cL_law 616 = .ok (.goto 4, 3) := by decide +kernel
theorem dL_law_619 : decode cL_law 619 = .ok (.iconst 0, 1) := by decide +kernel
theorem dL_law_620 : decode cL_law 620 = .ok (.iload 13, 2) := by decide +kernel
theorem dL_law_622 : decode cL_law 622 = .ok (.ifCond .le 14, 3) := by decide +kernel
theorem dL_law_625 : decode cL_law 625 = .ok (.iload 14, 2) := by decide +kernel
theorem dL_law_627 : decode cL_law 627 = .ok (.iload 13, 2) := by decide +kernel
theorem dL_law_629 : decode cL_law 629 = .ok (.if_icmp .lt 7, 3) := by decide +kernel
theorem dL_law_632 : decode cL_law 632 = .ok (.iconst 1, 1) := by decide +kernel
theorem dL_law_633 : decode cL_law 633 = .ok (.goto 4, 3) := by decide +kernel
theorem dL_law_636 : decode cL_law 636 = .ok (.iconst 0, 1) := by decide +kernel
theorem dL_law_637 : decode cL_law 637 = .ok (.if_icmp .ne 82, 3) := by decide +kernel
theorem dL_law_640 : decode cL_law 640 = .ok (.iload 18, 2) := by decide +kernel
theorem dL_law_642 : decode cL_law 642 = .ok (.ifCond .ne 7, 3) := by decide +kernel
theorem dL_law_645 : decode cL_law 645 = .ok (.iconst 1, 1) := by decide +kernel
theorem dL_law_646 : decode cL_law 646 = .ok (.goto 4, 3) := by decide +kernel
theorem dL_law_649 : decode cL_law 649 = .ok (.iconst 0, 1) := by decide +kernel
theorem dL_law_650 : decode cL_law 650 = .ok (.aload_n 1, 1) := by decide +kernel
theorem dL_law_651 : decode cL_law 651 = .ok (.iload 12, 2) := by decide +kernel
theorem dL_law_653 : decode cL_law 653 = .ok (.invokevirtual 112, 3) := by decide +kernel
theorem dL_law_656 : decode cL_law 656 = .ok (.iconst 1, 1) := by decide +kernel
theorem dL_law_657 : decode cL_law 657 = .ok (.if_icmp .ne 7, 3) := by decide +kernel
theorem dL_law_660 : decode cL_law 660 = .ok (.iconst 1, 1) := by decide +kernel
theorem dL_law_661 : decode cL_law 661 = .ok (.goto 4, 3) := by decide +kernel
theorem dL_law_664 : decode cL_law 664 = .ok (.iconst 0, 1) := by decide +kernel
theorem dL_law_665 : decode cL_law 665 = .ok (.if_icmp .ne 54, 3) := by decide +kernel
theorem dL_law_668 : decode cL_law 668 = .ok (.aload_n 1, 1) := by decide +kernel
theorem dL_law_669 : decode cL_law 669 = .ok (.invokevirtual 143, 3) := by decide +kernel
theorem dL_law_672 : decode cL_law 672 = .ok (.iload 17, 2) := by decide +kernel
theorem dL_law_674 : decode cL_law 674 = .ok (.iload 15, 2) := by decide +kernel
theorem dL_law_676 : decode cL_law 676 = .ok (.ifCond .eq 7, 3) := by decide +kernel
theorem dL_law_679 : decode cL_law 679 = .ok (.iconst 1, 1) := by decide +kernel
theorem dL_law_680 : decode cL_law 680 = .ok (.goto 4, 3) := by decide +kernel
theorem dL_law_683 : decode cL_law 683 = .ok (.iconst 0, 1) := by decide +kernel
theorem dL_law_684 : decode cL_law 684 = .ok (.iadd, 1) := by decide +kernel
theorem dL_law_685 : decode cL_law 685 = .ok (.if_icmp .ne 34, 3) := by decide +kernel
theorem dL_law_688 : decode cL_law 688 = .ok (.iload 15, 2) := by decide +kernel
theorem dL_law_690 : decode cL_law 690 = .ok (.ifCond .eq 17, 3) := by decide +kernel
theorem dL_law_693 : decode cL_law 693 = .ok (.iload 18, 2) := by decide +kernel
theorem dL_law_695 : decode cL_law 695 = .ok (.bipush 99, 2) := by decide +kernel
theorem dL_law_697 : decode cL_law 697 = .ok (.iload 16, 2) := by decide +kernel
theorem dL_law_699 : decode cL_law 699 = .ok (.iconst 1, 1) := by decide +kernel
theorem dL_law_700 : decode cL_law 700 = .ok (.iadd, 1) := by decide +kernel
theorem dL_law_701 : decode cL_law 701 = .ok (.invokestatic 146, 3) := by decide +kernel
theorem dL_law_704 : decode cL_law 704 = .ok (.if_icmp .ne 15, 3) := by decide +kernel
theorem dL_law_707 : decode cL_law 707 = .ok (.iload 15, 2) := by decide +kernel
theorem dL_law_709 : decode cL_law 709 = .ok (.ifCond .ne 12, 3) := by decide +kernel
theorem dL_law_712 : decode cL_law 712 = .ok (.iload 18, 2) := by decide +kernel
theorem dL_law_714 : decode cL_law 714 = .ok (.iload 16, 2) := by decide +kernel
theorem dL_law_716 : decode cL_law 716 = .ok (.if_icmp .lt 5, 3) := by decide +kernel
theorem dL_law_719 : decode cL_law 719 = .ok (.iconst 0, 1) := by decide +kernel
theorem dL_law_720 : decode cL_law 720 = .ok (.ireturn, 1) := by decide +kernel
theorem dL_law_721 : decode cL_law 721 = .ok (.iconst 0, 1) := by decide +kernel
theorem dL_law_722 : decode cL_law 722 = .ok (.istore 12, 2) := by decide +kernel
theorem dL_law_724 : decode cL_law 724 = .ok (.iload 12, 2) := by decide +kernel
theorem dL_law_726 : decode cL_law 726 = .ok (.iload 8, 2) := by decide +kernel
theorem dL_law_728 : decode cL_law 728 = .ok (.if_icmp .ge 150, 3) := by decide +kernel
theorem dL_law_731 : decode cL_law 731 = .ok (.iload 4, 2) := by decide +kernel
theorem dL_law_733 : decode cL_law 733 = .ok (.iconst 3, 1) := by decide +kernel
theorem dL_law_734 : decode cL_law 734 = .ok (.ishr, 1) := by decide +kernel
theorem dL_law_735 : decode cL_law 735 = .ok (.bipush 7, 2) := by decide +kernel
theorem dL_law_737 : decode cL_law 737 = .ok (.iload 12, 2) := by decide +kernel
theorem dL_law_739 : decode cL_law 739 = .ok (.imul, 1) := by decide +kernel
theorem dL_law_740 : decode cL_law 740 = .ok (.iadd, 1) := by decide +kernel
theorem dL_law_741 : decode cL_law 741 = .ok (.iload 8, 2) := by decide +kernel
theorem dL_law_743 : decode cL_law 743 = .ok (.invokestatic 18, 3) := by decide +kernel
theorem dL_law_746 : decode cL_law 746 = .ok (.istore 13, 2) := by decide +kernel
theorem dL_law_748 : decode cL_law 748 = .ok (.aload_n 2, 1) := by decide +kernel
theorem dL_law_749 : decode cL_law 749 = .ok (.aload_n 2, 1) := by decide +kernel
theorem dL_law_750 : decode cL_law 750 = .ok (.getfield 15, 3) := by decide +kernel
theorem dL_law_753 : decode cL_law 753 = .ok (.iload 12, 2) := by decide +kernel
theorem dL_law_755 : decode cL_law 755 = .ok (.aaload, 1) := by decide +kernel
theorem dL_law_756 : decode cL_law 756 = .ok (.aload_n 2, 1) := by decide +kernel
theorem dL_law_757 : decode cL_law 757 = .ok (.getfield 15, 3) := by decide +kernel
theorem dL_law_760 : decode cL_law 760 = .ok (.iload 13, 2) := by decide +kernel
theorem dL_law_762 : decode cL_law 762 = .ok (.aaload, 1) := by decide +kernel
theorem dL_law_763 : decode cL_law 763 = .ok (.invokevirtual 62, 3) := by decide +kernel
theorem dL_law_766 : decode cL_law 766 = .ok (.ifCond .ne 6, 3) := by decide +kernel
theorem dL_law_769 : decode cL_law 769 = .ok (.goto 103, 3) := by decide +kernel
theorem dL_law_772 : decode cL_law 772 = .ok (.aload_n 1, 1) := by decide +kernel
theorem dL_law_773 : decode cL_law 773 = .ok (.aload_n 1, 1) := by decide +kernel
theorem dL_law_774 : decode cL_law 774 = .ok (.iload 12, 2) := by decide +kernel
theorem dL_law_776 : decode cL_law 776 = .ok (.invokevirtual 151, 3) := by decide +kernel
theorem dL_law_779 : decode cL_law 779 = .ok (.aload_n 1, 1) := by decide +kernel
theorem dL_law_780 : decode cL_law 780 = .ok (.iload 12, 2) := by decide +kernel
theorem dL_law_782 : decode cL_law 782 = .ok (.invokevirtual 154, 3) := by decide +kernel
theorem dL_law_785 : decode cL_law 785 = .ok (.invokevirtual 106, 3) := by decide +kernel
theorem dL_law_788 : decode cL_law 788 = .ok (.istore 14, 2) := by decide +kernel
theorem dL_law_790 : decode cL_law 790 = .ok (.aload_n 1, 1) := by decide +kernel
theorem dL_law_791 : decode cL_law 791 = .ok (.iload 12, 2) := by decide +kernel
theorem dL_law_793 : decode cL_law 793 = .ok (.iload 13, 2) := by decide +kernel
theorem dL_law_795 : decode cL_law 795 = .ok (.invokevirtual 70, 3) := by decide +kernel
theorem dL_law_798 : decode cL_law 798 = .ok (.istore 15, 2) := by decide +kernel
theorem dL_law_800 : decode cL_law 800 = .ok (.iload 15, 2) := by decide +kernel
theorem dL_law_802 : decode cL_law 802 = .ok (.aload_n 2, 1) := by decide +kernel
theorem dL_law_803 : decode cL_law 803 = .ok (.aload_n 2, 1) := by decide +kernel
theorem dL_law_804 : decode cL_law 804 = .ok (.getfield 15, 3) := by decide +kernel
theorem dL_law_807 : decode cL_law 807 = .ok (.iload 12, 2) := by decide +kernel
theorem dL_law_809 : decode cL_law 809 = .ok (.aaload, 1) := by decide +kernel
theorem dL_law_810 : decode cL_law 810 = .ok (.aload_n 2, 1) := by decide +kernel
theorem dL_law_811 : decode cL_law 811 = .ok (.getfield 15, 3) := by decide +kernel
theorem dL_law_814 : decode cL_law 814 = .ok (.iload 13, 2) := by decide +kernel
theorem dL_law_816 : decode cL_law 816 = .ok (.aaload, 1) := by decide +kernel
theorem dL_law_817 : decode cL_law 817 = .ok (.invokevirtual 66, 3) := by decide +kernel
theorem dL_law_820 : decode cL_law 820 = .ok (.if_icmp .ne 50, 3) := by decide +kernel
theorem dL_law_823 : decode cL_law 823 = .ok (.iload 15, 2) := by decide +kernel
theorem dL_law_825 : decode cL_law 825 = .ok (.iconst 1, 1) := by decide +kernel
theorem dL_law_826 : decode cL_law 826 = .ok (.if_icmp .lt 44, 3) := by decide +kernel
theorem dL_law_829 : decode cL_law 829 = .ok (.aload_n 1, 1) := by decide +kernel
theorem dL_law_830 : decode cL_law 830 = .ok (.aload_n 1, 1) := by decide +kernel
theorem dL_law_831 : decode cL_law 831 = .ok (.iload 12, 2) := by decide +kernel
theorem dL_law_833 : decode cL_law 833 = .ok (.invokevirtual 151, 3) := by decide +kernel
theorem dL_law_836 : decode cL_law 836 = .ok (.aload_n 1, 1) := by decide +kernel
theorem dL_law_837 : decode cL_law 837 = .ok (.iload 12, 2) := by decide +kernel
theorem dL_law_839 : decode cL_law 839 = .ok (.invokevirtual 154, 3) := by decide +kernel
theorem dL_law_842 : decode cL_law 842 = .ok (.invokevirtual 106, 3) := by decide +kernel
theorem dL_law_845 : decode cL_law 845 = .ok (.iload 14, 2) := by decide +kernel
theorem dL_law_847 : decode cL_law 847 = .ok (.if_icmp .ne 23, 3) := by decide +kernel
theorem dL_law_850 : decode cL_law 850 = .ok (.aload_n 1, 1) := by decide +kernel
theorem dL_law_851 : decode cL_law 851 = .ok (.iload 12, 2) := by decide +kernel
theorem dL_law_853 : decode cL_law 853 = .ok (.invokevirtual 112, 3) := by decide +kernel
theorem dL_law_856 : decode cL_law 856 = .ok (.iconst 3, 1) := by decide +kernel
theorem dL_law_857 : decode cL_law 857 = .ok (.if_icmp .eq 21, 3) := by decide +kernel
theorem dL_law_860 : decode cL_law 860 = .ok (.aload_n 1, 1) := by decide +kernel
theorem dL_law_861 : decode cL_law 861 = .ok (.iload 13, 2) := by decide +kernel
theorem dL_law_863 : decode cL_law 863 = .ok (.invokevirtual 112, 3) := by decide +kernel
theorem dL_law_866 : decode cL_law 866 = .ok (.iconst 3, 1) := by decide +kernel
theorem dL_law_867 : decode cL_law 867 = .ok (.if_icmp .eq 11, 3) := by decide +kernel
theorem dL_law_870 : decode cL_law 870 = .ok (.iconst 0, 1) := by decide +kernel
theorem dL_law_871 : decode cL_law 871 = .ok (.ireturn, 1) := by decide +kernel
theorem dL_law_872 : decode cL_law 872 = .ok (.iinc 12 1, 3) := by decide +kernel
theorem dL_law_875 : decode cL_law 875 = .ok (.goto (-151), 3) := by decide +kernel
theorem dL_law_878 : decode cL_law 878 = .ok (.iconst 1, 1) := by decide +kernel
theorem dL_law_879 : decode cL_law 879 = .ok (.iload 4, 2) := by decide +kernel
theorem dL_law_881 : decode cL_law 881 = .ok (.iconst 5, 1) := by decide +kernel
theorem dL_law_882 : decode cL_law 882 = .ok (.ishr, 1) := by decide +kernel
theorem dL_law_883 : decode cL_law 883 = .ok (.bipush 15, 2) := by decide +kernel
theorem dL_law_885 : decode cL_law 885 = .ok (.invokestatic 18, 3) := by decide +kernel
theorem dL_law_888 : decode cL_law 888 = .ok (.iadd, 1) := by decide +kernel
theorem dL_law_889 : decode cL_law 889 = .ok (.istore 12, 2) := by decide +kernel
theorem dL_law_891 : decode cL_law 891 = .ok (.iload 8, 2) := by decide +kernel
theorem dL_law_893 : decode cL_law 893 = .ok (.newarray .int, 2) := by decide +kernel
theorem dL_law_895 : decode cL_law 895 = .ok (.astore 13, 2) := by decide +kernel
theorem dL_law_897 : decode cL_law 897 = .ok (.iload 8, 2) := by decide +kernel
theorem dL_law_899 : decode cL_law 899 = .ok (.newarray .int, 2) := by decide +kernel
theorem dL_law_901 : decode cL_law 901 = .ok (.astore 14, 2) := by decide +kernel
theorem dL_law_903 : decode cL_law 903 = .ok (.iconst 0, 1) := by decide +kernel
theorem dL_law_904 : decode cL_law 904 = .ok (.istore 15, 2) := by decide +kernel
theorem dL_law_906 : decode cL_law 906 = .ok (.iload 15, 2) := by decide +kernel
theorem dL_law_908 : decode cL_law 908 = .ok (.iload 8, 2) := by decide +kernel
theorem dL_law_910 : decode cL_law 910 = .ok (.if_icmp .ge 33, 3) := by decide +kernel
theorem dL_law_913 : decode cL_law 913 = .ok (.aload 13, 2) := by decide +kernel
theorem dL_law_915 : decode cL_law 915 = .ok (.iload 15, 2) := by decide +kernel
theorem dL_law_917 : decode cL_law 917 = .ok (.aload_n 1, 1) := by decide +kernel
theorem dL_law_918 : decode cL_law 918 = .ok (.iload 15, 2) := by decide +kernel
theorem dL_law_920 : decode cL_law 920 = .ok (.iload 12, 2) := by decide +kernel
theorem dL_law_922 : decode cL_law 922 = .ok (.invokevirtual 157, 3) := by decide +kernel
theorem dL_law_925 : decode cL_law 925 = .ok (.iastore, 1) := by decide +kernel
theorem dL_law_926 : decode cL_law 926 = .ok (.aload 14, 2) := by decide +kernel
theorem dL_law_928 : decode cL_law 928 = .ok (.iload 15, 2) := by decide +kernel
theorem dL_law_930 : decode cL_law 930 = .ok (.aload_n 1, 1) := by decide +kernel
theorem dL_law_931 : decode cL_law 931 = .ok (.iload 15, 2) := by decide +kernel
theorem dL_law_933 : decode cL_law 933 = .ok (.invokevirtual 121, 3) := by decide +kernel
theorem dL_law_936 : decode cL_law 936 = .ok (.iastore, 1) := by decide +kernel
theorem dL_law_937 : decode cL_law 937 = .ok (.iinc 15 1, 3) := by decide +kernel
theorem dL_law_940 : decode cL_law 940 = .ok (.goto (-34), 3) := by decide +kernel
theorem dL_law_943 : decode cL_law 943 = .ok (.iload 4, 2) := by decide +kernel
theorem dL_law_945 : decode cL_law 945 = .ok (.iconst 2, 1) := by decide +kernel
theorem dL_law_946 : decode cL_law 946 = .ok (.ishr, 1) := by decide +kernel
theorem dL_law_947 : decode cL_law 947 = .ok (.iload 7, 2) := by decide +kernel
theorem dL_law_949 : decode cL_law 949 = .ok (.invokestatic 18, 3) := by decide +kernel
theorem dL_law_952 : decode cL_law 952 = .ok (.istore 15, 2) := by decide +kernel
theorem dL_law_954 : decode cL_law 954 = .ok (.aload_n 1, 1) := by decide +kernel
theorem dL_law_955 : decode cL_law 955 = .ok (.iload 15, 2) := by decide +kernel
theorem dL_law_957 : decode cL_law 957 = .ok (.iload 12, 2) := by decide +kernel
theorem dL_law_959 : decode cL_law 959 = .ok (.invokevirtual 160, 3) := by decide +kernel
theorem dL_law_962 : decode cL_law 962 = .ok (.istore 16, 2) := by decide +kernel
theorem dL_law_964 : decode cL_law 964 = .ok (.iconst 1, 1) := by decide +kernel
theorem dL_law_965 : decode cL_law 965 = .ok (.istore 17, 2) := by decide +kernel
theorem dL_law_967 : decode cL_law 967 = .ok (.iload 17, 2) := by decide +kernel
theorem dL_law_969 : decode cL_law 969 = .ok (.iload 12, 2) := by decide +kernel
theorem dL_law_971 : decode cL_law 971 = .ok (.if_icmp .gt 211, 3) := by decide +kernel
theorem dL_law_974 : decode cL_law 974 = .ok (.iload 8, 2) := by decide +kernel
theorem dL_law_976 : decode cL_law 976 = .ok (.newarray .int, 2) := by decide +kernel
theorem dL_law_978 : decode cL_law 978 = .ok (.astore 18, 2) := by decide +kernel
theorem dL_law_980 : decode cL_law 980 = .ok (.iload 8, 2) := by decide +kernel
theorem dL_law_982 : decode cL_law 982 = .ok (.newarray .int, 2) := by decide +kernel
theorem dL_law_984 : decode cL_law 984 = .ok (.astore 19, 2) := by decide +kernel
theorem dL_law_986 : decode cL_law 986 = .ok (.iconst 0, 1) := by decide +kernel
theorem dL_law_987 : decode cL_law 987 = .ok (.istore 20, 2) := by decide +kernel
theorem dL_law_989 : decode cL_law 989 = .ok (.iload 20, 2) := by decide +kernel
theorem dL_law_991 : decode cL_law 991 = .ok (.iload 8, 2) := by decide +kernel
theorem dL_law_993 : decode cL_law 993 = .ok (.if_icmp .ge 31, 3) := by decide +kernel
theorem dL_law_996 : decode cL_law 996 = .ok (.aload 18, 2) := by decide +kernel
theorem dL_law_998 : decode cL_law 998 = .ok (.iload 20, 2) := by decide +kernel
theorem dL_law_1000 : decode cL_law 1000 = .ok (.aload_n 1, 1) := by decide +kernel
theorem dL_law_1001 : decode cL_law 1001 = .ok (.iload 20, 2) := by decide +kernel
theorem dL_law_1003 : decode cL_law 1003 = .ok (.invokevirtual 109, 3) := by decide +kernel
theorem dL_law_1006 : decode cL_law 1006 = .ok (.iastore, 1) := by decide +kernel
theorem dL_law_1007 : decode cL_law 1007 = .ok (.aload 19, 2) := by decide +kernel
theorem dL_law_1009 : decode cL_law 1009 = .ok (.iload 20, 2) := by decide +kernel
theorem dL_law_1011 : decode cL_law 1011 = .ok (.aload_n 1, 1) := by decide +kernel
theorem dL_law_1012 : decode cL_law 1012 = .ok (.iload 20, 2) := by decide +kernel
theorem dL_law_1014 : decode cL_law 1014 = .ok (.invokevirtual 112, 3) := by decide +kernel
theorem dL_law_1017 : decode cL_law 1017 = .ok (.iastore, 1) := by decide +kernel
theorem dL_law_1018 : decode cL_law 1018 = .ok (.iinc 20 1, 3) := by decide +kernel
theorem dL_law_1021 : decode cL_law 1021 = .ok (.goto (-32), 3) := by decide +kernel
theorem dL_law_1024 : decode cL_law 1024 = .ok (.aload_n 1, 1) := by decide +kernel
theorem dL_law_1025 : decode cL_law 1025 = .ok (.iconst 1, 1) := by decide +kernel
theorem dL_law_1026 : decode cL_law 1026 = .ok (.invokevirtual 45, 3) := by decide +kernel
theorem dL_law_1029 : decode cL_law 1029 = .ok (.istore 20, 2) := by decide +kernel
theorem dL_law_1031 : decode cL_law 1031 = .ok (.iload 20, 2) := by decide +kernel
theorem dL_law_1033 : decode cL_law 1033 = .ok (.aload_n 2, 1) := by decide +kernel
theorem dL_law_1034 : decode cL_law 1034 = .ok (.invokevirtual 163, 3) := by decide +kernel
theorem dL_law_1037 : decode cL_law 1037 = .ok (.if_icmp .eq 5, 3) := by decide +kernel
theorem dL_law_1040 : decode cL_law 1040 = .ok (.iconst 0, 1) := by decide +kernel
theorem dL_law_1041 : decode cL_law 1041 = .ok (.ireturn, 1) := by decide +kernel
theorem dL_law_1042 : decode cL_law 1042 = .ok (.iconst 0, 1) := by decide +kernel
theorem dL_law_1043 : decode cL_law 1043 = .ok (.istore 21, 2) := by decide +kernel
theorem dL_law_1045 : decode cL_law 1045 = .ok (.iload 21, 2) := by decide +kernel
theorem dL_law_1047 : decode cL_law 1047 = .ok (.iload 8, 2) := by decide +kernel
theorem dL_law_1049 : decode cL_law 1049 = .ok (.if_icmp .ge 120, 3) := by decide +kernel
theorem dL_law_1052 : decode cL_law 1052 = .ok (.aload 19, 2) := by decide +kernel
theorem dL_law_1054 : decode cL_law 1054 = .ok (.iload 21, 2) := by decide +kernel
theorem dL_law_1056 : decode cL_law 1056 = .ok (.iaload, 1) := by decide +kernel
theorem dL_law_1057 : decode cL_law 1057 = .ok (.ifCond .ne 17, 3) := by decide +kernel
theorem dL_law_1060 : decode cL_law 1060 = .ok (.aload_n 1, 1) := by decide +kernel
theorem dL_law_1061 : decode cL_law 1061 = .ok (.iload 21, 2) := by decide +kernel
theorem dL_law_1063 : decode cL_law 1063 = .ok (.invokevirtual 112, 3) := by decide +kernel
theorem dL_law_1066 : decode cL_law 1066 = .ok (.iconst 2, 1) := by decide +kernel
theorem dL_law_1067 : decode cL_law 1067 = .ok (.if_icmp .ne 7, 3) := by decide +kernel
theorem dL_law_1070 : decode cL_law 1070 = .ok (.iconst 1, 1) := by decide +kernel
theorem dL_law_1071 : decode cL_law 1071 = .ok (.goto 4, 3) := by decide +kernel
theorem dL_law_1074 : decode cL_law 1074 = .ok (.iconst 0, 1) := by decide +kernel
theorem dL_law_1075 : decode cL_law 1075 = .ok (.istore 22, 2) := by decide +kernel
theorem dL_law_1077 : decode cL_law 1077 = .ok (.iload 20, 2) := by decide +kernel
theorem dL_law_1079 : decode cL_law 1079 = .ok (.iload 22, 2) := by decide +kernel
theorem dL_law_1081 : decode cL_law 1081 = .ok (.ifCond .eq 7, 3) := by decide +kernel
theorem dL_law_1084 : decode cL_law 1084 = .ok (.iconst 1, 1) := by decide +kernel
theorem dL_law_1085 : decode cL_law 1085 = .ok (.goto 4, 3) := by decide +kernel
theorem dL_law_1088 : decode cL_law 1088 = .ok (.iconst 0, 1) := by decide +kernel
theorem dL_law_1089 : decode cL_law 1089 = .ok (.isub, 1) := by decide +kernel
theorem dL_law_1090 : decode cL_law 1090 = .ok (.istore 20, 2) := by decide +kernel
theorem dL_law_1092 : decode cL_law 1092 = .ok (.iload 22, 2) := by decide +kernel
theorem dL_law_1094 : decode cL_law 1094 = .ok (.iload 17, 2) := by decide +kernel
theorem dL_law_1096 : decode cL_law 1096 = .ok (.aload 14, 2) := by decide +kernel
theorem dL_law_1098 : decode cL_law 1098 = .ok (.iload 21, 2) := by decide +kernel
theorem dL_law_1100 : decode cL_law 1100 = .ok (.iaload, 1) := by decide +kernel
theorem dL_law_1101 : decode cL_law 1101 = .ok (.if_icmp .ne 7, 3) := by decide +kernel
theorem dL_law_1104 : decode cL_law 1104 = .ok (.iconst 1, 1) := by decide +kernel
theorem dL_law_1105 : decode cL_law 1105 = .ok (.goto 4, 3) := by decide +kernel
theorem dL_law_1108 : decode cL_law 1108 = .ok (.iconst 0, 1) := by decide +kernel
theorem dL_law_1109 : decode cL_law 1109 = .ok (.if_icmp .ne 52, 3) := by decide +kernel
theorem dL_law_1112 : decode cL_law 1112 = .ok (.aload 19, 2) := by decide +kernel
theorem dL_law_1114 : decode cL_law 1114 = .ok (.iload 21, 2) := by decide +kernel
theorem dL_law_1116 : decode cL_law 1116 = .ok (.iaload, 1) := by decide +kernel
theorem dL_law_1117 : decode cL_law 1117 = .ok (.ifCond .le 17, 3) := by decide +kernel
theorem dL_law_1120 : decode cL_law 1120 = .ok (.aload_n 1, 1) := by decide +kernel
theorem dL_law_1121 : decode cL_law 1121 = .ok (.iload 21, 2) := by decide +kernel
theorem dL_law_1123 : decode cL_law 1123 = .ok (.invokevirtual 112, 3) := by decide +kernel
theorem dL_law_1126 : decode cL_law 1126 = .ok (.aload 19, 2) := by decide +kernel
theorem dL_law_1128 : decode cL_law 1128 = .ok (.iload 21, 2) := by decide +kernel
theorem dL_law_1130 : decode cL_law 1130 = .ok (.iaload, 1) := by decide +kernel
theorem dL_law_1131 : decode cL_law 1131 = .ok (.if_icmp .ne 30, 3) := by decide +kernel
theorem dL_law_1134 : decode cL_law 1134 = .ok (.aload 19, 2) := by decide +kernel
theorem dL_law_1136 : decode cL_law 1136 = .ok (.iload 21, 2) := by decide +kernel
theorem dL_law_1138 : decode cL_law 1138 = .ok (.iaload, 1) := by decide +kernel
theorem dL_law_1139 : decode cL_law 1139 = .ok (.ifCond .ne 24, 3) := by decide +kernel
theorem dL_law_1142 : decode cL_law 1142 = .ok (.iload 22, 2) := by decide +kernel
theorem dL_law_1144 : decode cL_law 1144 = .ok (.ifCond .ne 19, 3) := by decide +kernel
theorem dL_law_1147 : decode cL_law 1147 = .ok (.aload_n 1, 1) := by decide +kernel
theorem dL_law_1148 : decode cL_law 1148 = .ok (.iload 21, 2) := by decide +kernel
theorem dL_law_1150 : decode cL_law 1150 = .ok (.invokevirtual 109, 3) := by decide +kernel
theorem dL_law_1153 : decode cL_law 1153 = .ok (.aload 18, 2) := by decide +kernel
theorem dL_law_1155 : decode cL_law 1155 = .ok (.iload 21, 2) := by decide +kernel
theorem dL_law_1157 : decode cL_law 1157 = .ok (.iaload, 1) := by decide +kernel
theorem dL_law_1158 : decode cL_law 1158 = .ok (.if_icmp .ge 5, 3) := by decide +kernel
theorem dL_law_1161 : decode cL_law 1161 = .ok (.iconst 0, 1) := by decide +kernel
theorem dL_law_1162 : decode cL_law 1162 = .ok (.ireturn, 1) := by decide +kernel
theorem dL_law_1163 : decode cL_law 1163 = .ok (.iinc 21 1, 3) := by decide +kernel
theorem dL_law_1166 : decode cL_law 1166 = .ok (.goto (-121), 3) := by decide +kernel
theorem dL_law_1169 : decode cL_law 1169 = .ok (.iload 20, 2) := by decide +kernel
theorem dL_law_1171 : decode cL_law 1171 = .ok (.ifCond .eq 5, 3) := by decide +kernel
theorem dL_law_1174 : decode cL_law 1174 = .ok (.iconst 0, 1) := by decide +kernel
theorem dL_law_1175 : decode cL_law 1175 = .ok (.ireturn, 1) := by decide +kernel
theorem dL_law_1176 : decode cL_law 1176 = .ok (.iinc 17 1, 3) := by decide +kernel
theorem dL_law_1179 : decode cL_law 1179 = .ok (.goto (-212), 3) := by decide +kernel
theorem dL_law_1182 : decode cL_law 1182 = .ok (.iconst 0, 1) := by decide +kernel
theorem dL_law_1183 : decode cL_law 1183 = .ok (.istore 17, 2) := by decide +kernel
theorem dL_law_1185 : decode cL_law 1185 = .ok (.iload 17, 2) := by decide +kernel
theorem dL_law_1187 : decode cL_law 1187 = .ok (.iload 8, 2) := by decide +kernel
theorem dL_law_1189 : decode cL_law 1189 = .ok (.if_icmp .ge 25, 3) := by decide +kernel
theorem dL_law_1192 : decode cL_law 1192 = .ok (.aload_n 1, 1) := by decide +kernel
theorem dL_law_1193 : decode cL_law 1193 = .ok (.iload 17, 2) := by decide +kernel
theorem dL_law_1195 : decode cL_law 1195 = .ok (.invokevirtual 109, 3) := by decide +kernel
theorem dL_law_1198 : decode cL_law 1198 = .ok (.aload 13, 2) := by decide +kernel
theorem dL_law_1200 : decode cL_law 1200 = .ok (.iload 17, 2) := by decide +kernel
theorem dL_law_1202 : decode cL_law 1202 = .ok (.iaload, 1) := by decide +kernel
theorem dL_law_1203 : decode cL_law 1203 = .ok (.if_icmp .eq 5, 3) := by decide +kernel
theorem dL_law_1206 : decode cL_law 1206 = .ok (.iconst 0, 1) := by decide +kernel
theorem dL_law_1207 : decode cL_law 1207 = .ok (.ireturn, 1) := by decide +kernel
theorem dL_law_1208 : decode cL_law 1208 = .ok (.iinc 17 1, 3) := by decide +kernel
theorem dL_law_1211 : decode cL_law 1211 = .ok (.goto (-26), 3) := by decide +kernel
theorem dL_law_1214 : decode cL_law 1214 = .ok (.aload_n 1, 1) := by decide +kernel
theorem dL_law_1215 : decode cL_law 1215 = .ok (.iload 15, 2) := by decide +kernel
theorem dL_law_1217 : decode cL_law 1217 = .ok (.invokevirtual 97, 3) := by decide +kernel
theorem dL_law_1220 : decode cL_law 1220 = .ok (.iload 16, 2) := by decide +kernel
theorem dL_law_1222 : decode cL_law 1222 = .ok (.if_icmp .eq 5, 3) := by decide +kernel
theorem dL_law_1225 : decode cL_law 1225 = .ok (.iconst 0, 1) := by decide +kernel
theorem dL_law_1226 : decode cL_law 1226 = .ok (.ireturn, 1) := by decide +kernel
theorem dL_law_1227 : decode cL_law 1227 = .ok (.iinc 3 1, 3) := by decide +kernel
theorem dL_law_1230 : decode cL_law 1230 = .ok (.goto (-1208), 3) := by decide +kernel
theorem dL_law_1233 : decode cL_law 1233 = .ok (.aload_n 2, 1) := by decide +kernel
theorem dL_law_1234 : decode cL_law 1234 = .ok (.aload_n 1, 1) := by decide +kernel
theorem dL_law_1235 : decode cL_law 1235 = .ok (.invokevirtual 165, 3) := by decide +kernel
theorem dL_law_1238 : decode cL_law 1238 = .ok (.ireturn, 1) := by decide +kernel
