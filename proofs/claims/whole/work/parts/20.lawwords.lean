theorem goodIn_m {big : List Cond} (ws : List Cond) (ps : List Nat) (hp : ws = ps.filterMap (fun i => big[i]?)) : ∀ w ∈ ws, w ∈ big := by
  intro w hw
  rw [hp] at hw
  obtain ⟨i, -, hi⟩ := List.mem_filterMap.mp hw
  exact List.mem_of_getElem? hi
set_option maxRecDepth 20000 in
theorem in_wsL_law0_r1 : ∀ w ∈ wsL_law0_r1, w ∈ lw_tbl := goodIn_m _ [49, 50, 40, 545, 546, 41, 845, 51, 52, 53, 54, 55, 56, 94, 57, 95, 58, 60, 61, 62, 63, 64, 65, 547] (by decide +kernel)
set_option maxRecDepth 20000 in
theorem in_wsL_law0_r2 : ∀ w ∈ wsL_law0_r2, w ∈ lw_tbl := goodIn_m _ [548, 549, 550, 555, 556, 558, 559, 560, 561, 562, 563, 347, 348, 39, 349, 350, 351, 352, 353, 354, 355, 360, 46, 59] (by decide +kernel)
set_option maxRecDepth 20000 in
theorem in_wsL_law0_r3 : ∀ w ∈ wsL_law0_r3, w ∈ lw_tbl := goodIn_m _ [356, 357, 358, 248, 45, 595, 596, 597, 598, 551, 554, 599, 600, 601, 602, 604, 16, 605, 591, 592, 593, 594, 376, 377] (by decide +kernel)
set_option maxRecDepth 20000 in
theorem in_wsL_law0_r4 : ∀ w ∈ wsL_law0_r4, w ∈ lw_tbl := goodIn_m _ [378, 379, 380, 381, 382, 383, 124, 126, 0, 127, 128, 47, 606, 607, 608, 609, 610, 612, 17, 613, 614, 616, 18, 617] (by decide +kernel)
set_option maxRecDepth 20000 in
theorem in_wsL_law0_r5 : ∀ w ∈ wsL_law0_r5, w ∈ lw_tbl := goodIn_m _ [384, 385, 386, 387, 388, 389, 390, 66, 618, 619, 620, 621, 557, 394, 395, 396, 397, 398, 399, 400, 212, 214, 3, 215] (by decide +kernel)
set_option maxRecDepth 20000 in
theorem in_wsL_law0_r6 : ∀ w ∈ wsL_law0_r6, w ∈ lw_tbl := goodIn_m _ [401, 403, 9, 404, 315, 316, 317, 318, 406, 408, 10, 409, 300, 301, 48, 302, 622, 623, 624, 625, 626, 628, 19, 629] (by decide +kernel)
set_option maxRecDepth 20000 in
theorem in_wsL_law0_r7 : ∀ w ∈ wsL_law0_r7, w ∈ lw_tbl := goodIn_m _ [630, 632, 20, 633, 634, 636, 21, 637, 638, 410, 411, 412, 413, 414, 415, 416, 68, 417, 418, 419, 339, 341, 8, 342] (by decide +kernel)
set_option maxRecDepth 20000 in
theorem in_wsL_law0_r8 : ∀ w ∈ wsL_law0_r8, w ∈ lw_tbl := goodIn_m _ [327, 328, 329, 330, 335, 337, 7, 338, 297, 298, 299, 217, 218, 219, 220, 274, 275, 276, 277, 311, 312, 313, 314, 421] (by decide +kernel)
set_option maxRecDepth 20000 in
theorem in_wsL_law0_r9 : ∀ w ∈ wsL_law0_r9, w ∈ lw_tbl := goodIn_m _ [423, 11, 424, 425, 427, 12, 428, 639, 640, 641, 642, 553, 643, 645, 22, 646, 647, 649, 23, 650, 651, 653, 24, 654] (by decide +kernel)
set_option maxRecDepth 20000 in
theorem in_wsL_law0_r10 : ∀ w ∈ wsL_law0_r10, w ∈ lw_tbl := goodIn_m _ [429, 430, 431, 432, 433, 434, 435, 204, 206, 2, 207, 208, 209, 210, 211, 655, 656, 657, 658, 659, 661, 25, 662, 437] (by decide +kernel)
set_option maxRecDepth 20000 in
theorem in_wsL_law0_r11 : ∀ w ∈ wsL_law0_r11, w ∈ lw_tbl := goodIn_m _ [438, 439, 440, 441, 442, 443, 663, 664, 665, 666, 444, 445, 446, 447, 448, 449, 450, 286, 287, 288, 451, 453, 13, 454] (by decide +kernel)
set_option maxRecDepth 20000 in
theorem in_wsL_law0_r12 : ∀ w ∈ wsL_law0_r12, w ∈ lw_tbl := goodIn_m _ [67, 455, 457, 14, 458, 294, 295, 296, 667, 668, 669, 670, 552, 671, 673, 26, 674, 675, 676, 677, 678, 96, 97, 98] (by decide +kernel)
set_option maxRecDepth 20000 in
theorem in_wsL_law0_r13 : ∀ w ∈ wsL_law0_r13, w ∈ lw_tbl := goodIn_m _ [99, 679, 680, 681, 682, 683, 685, 27, 686, 100, 101, 102, 103, 687, 688, 689, 690, 104, 105, 106, 107, 691, 692, 693] (by decide +kernel)
set_option maxRecDepth 20000 in
theorem in_wsL_law0_r14 : ∀ w ∈ wsL_law0_r14, w ∈ lw_tbl := goodIn_m _ [694, 108, 109, 110, 111, 695, 696, 697, 698, 699, 701, 28, 702, 112, 113, 114, 115, 703, 704, 705, 706, 459, 460, 461] (by decide +kernel)
set_option maxRecDepth 20000 in
theorem in_wsL_law0_r15 : ∀ w ∈ wsL_law0_r15, w ∈ lw_tbl := goodIn_m _ [462, 271, 272, 273, 707, 708, 709, 710, 463, 464, 465, 466, 711, 712, 713, 714, 467, 468, 469, 470, 121, 122, 123, 715] (by decide +kernel)
set_option maxRecDepth 20000 in
theorem in_wsL_law0_r16 : ∀ w ∈ wsL_law0_r16, w ∈ lw_tbl := goodIn_m _ [716, 717, 718, 719, 721, 29, 722, 471, 472, 473, 474, 279, 280, 281, 723, 724, 725, 726, 475, 476, 477, 478, 479, 480] (by decide +kernel)
set_option maxRecDepth 20000 in
theorem in_wsL_law0_r17 : ∀ w ∈ wsL_law0_r17, w ∈ lw_tbl := goodIn_m _ [481, 482, 484, 15, 485, 727, 728, 729, 730, 116, 117, 118, 119, 120, 731, 732, 733, 734, 735, 737, 30, 738, 486, 487] (by decide +kernel)
set_option maxRecDepth 20000 in
theorem in_wsL_law0_r18 : ∀ w ∈ wsL_law0_r18, w ∈ lw_tbl := goodIn_m _ [488, 489, 739, 740, 741, 742, 743, 745, 31, 746, 490, 491, 492, 493, 747, 748, 749, 750, 494, 495, 496, 497, 751, 752] (by decide +kernel)
set_option maxRecDepth 20000 in
theorem in_wsL_law0_r19 : ∀ w ∈ wsL_law0_r19, w ∈ lw_tbl := goodIn_m _ [753, 754, 498, 499, 500, 501, 755, 756, 757, 758, 502, 503, 504, 505, 320, 321, 322, 759, 760, 761, 762, 506, 507, 508] (by decide +kernel)
set_option maxRecDepth 20000 in
theorem in_wsL_law0_r20 : ∀ w ∈ wsL_law0_r20, w ∈ lw_tbl := goodIn_m _ [509, 324, 325, 326, 763, 764, 765, 766, 510, 511, 512, 513, 767, 768, 769, 770, 514, 515, 516, 517, 245, 246, 247, 771] (by decide +kernel)
set_option maxRecDepth 20000 in
theorem in_wsL_law0_r21 : ∀ w ∈ wsL_law0_r21, w ∈ lw_tbl := goodIn_m _ [772, 773, 774, 775, 777, 32, 778, 196, 197, 198, 199, 779, 780, 781, 782, 783, 785, 33, 786, 200, 201, 202, 203, 787] (by decide +kernel)
set_option maxRecDepth 20000 in
theorem in_wsL_law0_r22 : ∀ w ∈ wsL_law0_r22, w ∈ lw_tbl := goodIn_m _ [788, 789, 790, 791, 793, 34, 794, 518, 519, 520, 521, 332, 333, 334, 795, 796, 797, 798, 799, 801, 35, 802, 522, 523] (by decide +kernel)
set_option maxRecDepth 20000 in
theorem in_wsL_law0_r23 : ∀ w ∈ wsL_law0_r23, w ∈ lw_tbl := goodIn_m _ [524, 525, 526, 527, 528, 803, 804, 805, 806, 529, 530, 531, 532, 291, 292, 293, 807, 808, 809, 810, 533, 534, 535, 536] (by decide +kernel)
set_option maxRecDepth 20000 in
theorem in_wsL_law0_r24 : ∀ w ∈ wsL_law0_r24, w ∈ lw_tbl := goodIn_m _ [344, 345, 346, 811, 812, 813, 814, 815, 817, 36, 818, 537, 538, 539, 540, 283, 284, 285, 290, 819, 820, 821, 822, 823] (by decide +kernel)
set_option maxRecDepth 20000 in
theorem in_wsL_law0_r25 : ∀ w ∈ wsL_law0_r25, w ∈ lw_tbl := goodIn_m _ [825, 37, 826, 541, 542, 543, 544, 304, 305, 306, 827, 828, 829, 830, 831, 833, 38, 834, 221, 222, 223, 224, 835, 836] (by decide +kernel)
set_option maxRecDepth 20000 in
theorem in_wsL_law0_r26 : ∀ w ∈ wsL_law0_r26, w ∈ lw_tbl := goodIn_m _ [837, 838, 225, 226, 227, 228, 229, 230, 232, 4, 233, 234, 235, 236, 237, 238, 239, 240, 241, 242, 243, 244, 264, 265] (by decide +kernel)
set_option maxRecDepth 20000 in
theorem in_wsL_law0_r27 : ∀ w ∈ wsL_law0_r27, w ∈ lw_tbl := goodIn_m _ [266, 268, 5, 269, 270, 278, 282, 303, 307, 309, 6, 310, 319, 323, 331, 343, 839, 840, 841, 842, 843, 844] (by decide +kernel)
theorem in_law0_rs : ∀ w ∈ (wsL_law0_r1 ++ (wsL_law0_r2 ++ (wsL_law0_r3 ++ (wsL_law0_r4 ++ (wsL_law0_r5 ++ (wsL_law0_r6 ++ (wsL_law0_r7 ++ (wsL_law0_r8 ++ (wsL_law0_r9 ++ (wsL_law0_r10 ++ (wsL_law0_r11 ++ (wsL_law0_r12 ++ (wsL_law0_r13 ++ (wsL_law0_r14 ++ (wsL_law0_r15 ++ (wsL_law0_r16 ++ (wsL_law0_r17 ++ (wsL_law0_r18 ++ (wsL_law0_r19 ++ (wsL_law0_r20 ++ (wsL_law0_r21 ++ (wsL_law0_r22 ++ (wsL_law0_r23 ++ (wsL_law0_r24 ++ (wsL_law0_r25 ++ (wsL_law0_r26 ++ wsL_law0_r27)))))))))))))))))))))))))), w ∈ lw_tbl := fun w => (fun h => (List.mem_append.mp h).elim (fun h => in_wsL_law0_r1 w h) (fun h => (List.mem_append.mp h).elim (fun h => in_wsL_law0_r2 w h) (fun h => (List.mem_append.mp h).elim (fun h => in_wsL_law0_r3 w h) (fun h => (List.mem_append.mp h).elim (fun h => in_wsL_law0_r4 w h) (fun h => (List.mem_append.mp h).elim (fun h => in_wsL_law0_r5 w h) (fun h => (List.mem_append.mp h).elim (fun h => in_wsL_law0_r6 w h) (fun h => (List.mem_append.mp h).elim (fun h => in_wsL_law0_r7 w h) (fun h => (List.mem_append.mp h).elim (fun h => in_wsL_law0_r8 w h) (fun h => (List.mem_append.mp h).elim (fun h => in_wsL_law0_r9 w h) (fun h => (List.mem_append.mp h).elim (fun h => in_wsL_law0_r10 w h) (fun h => (List.mem_append.mp h).elim (fun h => in_wsL_law0_r11 w h) (fun h => (List.mem_append.mp h).elim (fun h => in_wsL_law0_r12 w h) (fun h => (List.mem_append.mp h).elim (fun h => in_wsL_law0_r13 w h) (fun h => (List.mem_append.mp h).elim (fun h => in_wsL_law0_r14 w h) (fun h => (List.mem_append.mp h).elim (fun h => in_wsL_law0_r15 w h) (fun h => (List.mem_append.mp h).elim (fun h => in_wsL_law0_r16 w h) (fun h => (List.mem_append.mp h).elim (fun h => in_wsL_law0_r17 w h) (fun h => (List.mem_append.mp h).elim (fun h => in_wsL_law0_r18 w h) (fun h => (List.mem_append.mp h).elim (fun h => in_wsL_law0_r19 w h) (fun h => (List.mem_append.mp h).elim (fun h => in_wsL_law0_r20 w h) (fun h => (List.mem_append.mp h).elim (fun h => in_wsL_law0_r21 w h) (fun h => (List.mem_append.mp h).elim (fun h => in_wsL_law0_r22 w h) (fun h => (List.mem_append.mp h).elim (fun h => in_wsL_law0_r23 w h) (fun h => (List.mem_append.mp h).elim (fun h => in_wsL_law0_r24 w h) (fun h => (List.mem_append.mp h).elim (fun h => in_wsL_law0_r25 w h) (fun h => (List.mem_append.mp h).elim (fun h => in_wsL_law0_r26 w h) (fun h => in_wsL_law0_r27 w h)))))))))))))))))))))))))))
theorem in_law0_wsX00 : ∀ w ∈ wsX00, w ∈ lw_tbl := by decide +kernel
theorem in_law0_wsX10 : ∀ w ∈ wsX10, w ∈ lw_tbl := by decide +kernel
theorem wsL_law_in0 : ∀ w ∈ wsL_law0, w ∈ lw_tbl := fun w => (fun h => (List.mem_append.mp h).elim ((fun h => (List.mem_append.mp h).elim ((fun h => (List.mem_append.mp h).elim (in_law0_rs w) (in_law0_wsX00 w))) (in_law0_wsX10 w))) (fun h => absurd h List.not_mem_nil))
theorem wsL_law_x0 : ∀ w ∈ (vx_atS RX0 47 "java/lang/IllegalStateException" ["java/lang/RuntimeException", "java/lang/Exception"]).filter goodWord, w ∈ lw_tbl := by decide +kernel
theorem wsL_law_x1 : ∀ w ∈ (vx_atS RX0 57 "java/lang/IllegalArgumentException" ["java/lang/RuntimeException", "java/lang/Exception"]).filter goodWord, w ∈ lw_tbl := by decide +kernel
theorem wsL_law_x2 : ∀ w ∈ (vx_atS RX0 147 "java/lang/IndexOutOfBoundsException" ["java/lang/RuntimeException", "java/lang/Exception"]).filter goodWord, w ∈ lw_tbl := by decide +kernel
theorem wsL_law_in : ∀ w ∈ wsL_law, w ∈ lw_tbl := fun w h => (List.mem_append.mp h).elim (fun h => (List.mem_append.mp h).elim (fun h => (List.mem_append.mp h).elim (fun h => wsL_law_in0 w h) (fun h => wsL_law_x0 w h)) (fun h => wsL_law_x1 w h)) (fun h => wsL_law_x2 w h)
theorem inlX0 : ∀ w ∈ wsX00, w ∈ wsL_law := fun _ h => List.mem_append_left _ (List.mem_append_left _ (List.mem_append_left _ (List.mem_append_left _ (List.mem_append_left _ (List.mem_append_right _ h)))))
theorem inX0 : ∀ w ∈ wsX00, w ∈ lw_tbl := fun w h => wsL_law_in w (inlX0 w h)
theorem inlX1 : ∀ w ∈ wsX10, w ∈ wsL_law := fun _ h => List.mem_append_left _ (List.mem_append_left _ (List.mem_append_left _ (List.mem_append_left _ (List.mem_append_right _ h))))
theorem inX1 : ∀ w ∈ wsX10, w ∈ lw_tbl := fun w h => wsL_law_in w (inlX1 w h)
theorem inJ9 : ∀ w ∈ wsJ90, w ∈ lw_tbl := by decide +kernel
theorem inJ0 : ∀ w ∈ wsJ00, w ∈ lw_tbl := by decide +kernel
