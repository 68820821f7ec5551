theorem pg_mem_r {big ws : List Cond} (ps : List Nat) (hp : ws = ps.filterMap (fun i => big[i]?)) : ∀ w ∈ ws, w ∈ big := by
  intro w hw
  rw [hp] at hw
  obtain ⟨i, -, hi⟩ := List.mem_filterMap.mp hw
  exact List.mem_of_getElem? hi
set_option maxRecDepth 100000 in
theorem wsL_law0_r1_in : ∀ w ∈ wsL_law0_r1, w ∈ lw_tbl := pg_mem_r [34, 35, 21, 547, 548, 26, 793, 36, 37, 38, 39, 40, 41, 42, 43, 22, 150, 58, 59, 23, 151, 86, 87, 24] rfl
set_option maxRecDepth 100000 in
theorem wsL_law0_r2_in : ∀ w ∈ wsL_law0_r2, w ∈ lw_tbl := pg_mem_r [152, 113, 114, 25, 153, 157, 158, 44, 45, 46, 47, 57, 48, 50, 60, 61, 62, 63, 64, 66, 85, 68, 70, 72] rfl
set_option maxRecDepth 100000 in
theorem wsL_law0_r3_in : ∀ w ∈ wsL_law0_r3, w ∈ lw_tbl := pg_mem_r [88, 89, 90, 91, 92, 94, 96, 98, 115, 116, 117, 118, 119, 121, 123, 549, 550, 551, 552, 556, 557, 558, 559, 560] rfl
set_option maxRecDepth 100000 in
theorem wsL_law0_r4_in : ∀ w ∈ wsL_law0_r4, w ∈ lw_tbl := pg_mem_r [561, 562, 563, 564, 574, 575, 576, 577, 579, 580, 260, 261, 20, 262, 263, 264, 265, 266, 267, 268, 269, 341, 154, 155] rfl
set_option maxRecDepth 100000 in
theorem wsL_law0_r5_in : ∀ w ∈ wsL_law0_r5, w ∈ lw_tbl := pg_mem_r [156, 270, 271, 272, 273, 30, 342, 344, 5, 345, 346, 31, 651, 652, 653, 654, 655, 659, 566, 553, 554, 555, 656, 657] rfl
set_option maxRecDepth 100000 in
theorem wsL_law0_r6_in : ∀ w ∈ wsL_law0_r6, w ∈ lw_tbl := pg_mem_r [658, 660, 662, 12, 663, 583, 647, 648, 649, 650, 362, 363, 364, 365, 366, 367, 368, 369, 49, 51, 370, 371, 372, 373] rfl
set_option maxRecDepth 100000 in
theorem wsL_law0_r7_in : ∀ w ∈ wsL_law0_r7, w ∈ lw_tbl := pg_mem_r [32, 664, 665, 666, 667, 389, 390, 391, 392, 393, 394, 395, 396, 65, 67, 69, 71, 73, 668, 669, 670, 671, 672, 397] rfl
set_option maxRecDepth 100000 in
theorem wsL_law0_r8_in : ∀ w ∈ wsL_law0_r8, w ∈ lw_tbl := pg_mem_r [398, 399, 400, 401, 402, 403, 120, 122, 673, 674, 675, 676, 404, 405, 406, 407, 408, 409, 410, 126, 677, 678, 679, 680] rfl
set_option maxRecDepth 100000 in
theorem wsL_law0_r9_in : ∀ w ∈ wsL_law0_r9, w ∈ lw_tbl := pg_mem_r [565, 411, 412, 413, 414, 415, 416, 417, 422, 423, 33, 424, 429, 246, 247, 159, 160, 418, 420, 6, 421, 425, 426, 427] rfl
set_option maxRecDepth 100000 in
theorem wsL_law0_r10_in : ∀ w ∈ wsL_law0_r10, w ∈ lw_tbl := pg_mem_r [428, 681, 682, 683, 684, 568, 569, 570, 430, 431, 432, 433, 434, 435, 436, 437, 439, 7, 440, 443, 445, 8, 446, 447] rfl
set_option maxRecDepth 100000 in
theorem wsL_law0_r11_in : ∀ w ∈ wsL_law0_r11, w ∈ lw_tbl := pg_mem_r [448, 449, 450, 451, 452, 453, 454, 100, 685, 686, 687, 688, 567, 689, 691, 13, 692, 578, 455, 456, 457, 458, 459, 460] rfl
set_option maxRecDepth 100000 in
theorem wsL_law0_r12_in : ∀ w ∈ wsL_law0_r12, w ∈ lw_tbl := pg_mem_r [461, 101, 93, 95, 97, 99, 693, 694, 695, 696, 464, 465, 466, 467, 468, 469, 470, 471, 472, 473, 697, 698, 699, 700] rfl
set_option maxRecDepth 100000 in
theorem wsL_law0_r13_in : ∀ w ∈ wsL_law0_r13, w ∈ lw_tbl := pg_mem_r [701, 703, 14, 704, 475, 476, 477, 478, 479, 480, 481, 483, 485, 9, 486, 161, 252, 254, 3, 255, 162, 225, 227, 0] rfl
set_option maxRecDepth 100000 in
theorem wsL_law0_r14_in : ∀ w ∈ wsL_law0_r14, w ∈ lw_tbl := pg_mem_r [228, 229, 231, 1, 232, 233, 234, 235, 236, 237, 238, 239, 240, 245, 241, 243, 2, 244, 705, 706, 707, 708, 709, 711] rfl
set_option maxRecDepth 100000 in
theorem wsL_law0_r15_in : ∀ w ∈ wsL_law0_r15, w ∈ lw_tbl := pg_mem_r [15, 712, 571, 713, 715, 16, 716, 572, 717, 719, 17, 720, 721, 723, 18, 724, 487, 488, 489, 490, 491, 492, 493, 725] rfl
set_option maxRecDepth 100000 in
theorem wsL_law0_r16_in : ∀ w ∈ wsL_law0_r16, w ∈ lw_tbl := pg_mem_r [726, 727, 728, 494, 495, 496, 497, 498, 499, 500, 128, 130, 503, 504, 505, 506, 129, 131, 132, 125, 507, 509, 10, 510] rfl
set_option maxRecDepth 100000 in
theorem wsL_law0_r17_in : ∀ w ∈ wsL_law0_r17, w ∈ lw_tbl := pg_mem_r [511, 513, 11, 514, 163, 729, 730, 731, 732, 581, 582, 733, 735, 19, 736, 573, 515, 516, 517, 518, 519, 520, 521, 522] rfl
set_option maxRecDepth 100000 in
theorem wsL_law0_r18_in : ∀ w ∈ wsL_law0_r18, w ∈ lw_tbl := pg_mem_r [523, 524, 525, 127, 737, 738, 739, 740, 193, 194, 195, 196, 741, 742, 743, 744, 197, 198, 199, 200, 745, 746, 747, 748] rfl
set_option maxRecDepth 100000 in
theorem wsL_law0_r19_in : ∀ w ∈ wsL_law0_r19, w ∈ lw_tbl := pg_mem_r [201, 202, 203, 204, 749, 750, 751, 752, 205, 206, 207, 208, 753, 754, 755, 756, 209, 210, 211, 212, 757, 758, 759, 760] rfl
set_option maxRecDepth 100000 in
theorem wsL_law0_r20_in : ∀ w ∈ wsL_law0_r20, w ∈ lw_tbl := pg_mem_r [213, 214, 215, 216, 761, 762, 763, 764, 217, 218, 219, 220, 765, 766, 767, 768, 221, 222, 223, 224, 769, 770, 771, 772] rfl
set_option maxRecDepth 100000 in
theorem wsL_law0_r21_in : ∀ w ∈ wsL_law0_r21, w ∈ lw_tbl := pg_mem_r [248, 249, 250, 251, 773, 774, 775, 776, 526, 527, 528, 529, 530, 531, 532, 777, 778, 779, 780, 256, 257, 258, 259, 781] rfl
set_option maxRecDepth 100000 in
theorem wsL_law0_r22_in : ∀ w ∈ wsL_law0_r22, w ∈ lw_tbl := pg_mem_r [782, 783, 784, 533, 534, 535, 536, 537, 538, 539, 785, 786, 787, 788, 540, 541, 542, 543, 544, 545, 546, 124, 789, 790] rfl
set_option maxRecDepth 100000 in
theorem wsL_law0_r23_in : ∀ w ∈ wsL_law0_r23, w ∈ lw_tbl := pg_mem_r [791, 792] rfl
set_option maxRecDepth 100000 in
theorem wsL_law_x0 : ∀ w ∈ (vx_atS RX4 208 "java/lang/IllegalArgumentException" ["java/lang/RuntimeException", "java/lang/Exception"]).filter goodWord, w ∈ lw_tbl := pg_mem_r [27, 295, 304, 308, 311, 313, 296, 297, 40, 41, 298, 303, 309, 329, 285, 330, 287, 331, 289, 299, 301, 291, 325, 326, 328, 291, 316, 317, 318, 319, 319, 320, 321, 322, 322, 323, 324, 325, 315, 274, 282, 283, 284, 286, 288, 290, 294, 293, 292] (by decide +kernel)
set_option maxRecDepth 100000 in
theorem wsL_law_x1 : ∀ w ∈ (vx_atS RX4 128 "java/lang/IllegalStateException" ["java/lang/RuntimeException", "java/lang/Exception"]).filter goodWord, w ∈ lw_tbl := pg_mem_r [27, 295, 304, 308, 311, 313, 296, 297, 40, 41, 298, 303, 309, 329, 285, 330, 287, 331, 289, 299, 301, 291, 325, 326, 328, 291, 357, 358, 359, 319, 319, 320, 321, 322, 322, 323, 324, 325, 356, 347, 349, 306, 350, 351, 352, 353, 294, 293, 354] (by decide +kernel)
set_option maxRecDepth 100000 in
theorem wsL_law_x2 : ∀ w ∈ (vx_atS RX4 203 "java/lang/IndexOutOfBoundsException" ["java/lang/RuntimeException", "java/lang/Exception"]).filter goodWord, w ∈ lw_tbl := pg_mem_r [27, 295, 304, 308, 311, 313, 296, 297, 40, 41, 298, 303, 309, 329, 285, 330, 287, 331, 289, 299, 301, 291, 325, 326, 328, 291, 384, 385, 386, 319, 319, 320, 321, 322, 322, 323, 324, 325, 383, 374, 376, 307, 377, 378, 379, 380, 294, 293, 381] (by decide +kernel)
set_option maxRecDepth 100000 in
theorem wsX00_in : ∀ w ∈ wsX00, w ∈ lw_tbl := pg_mem_r [102, 104, 106, 108, 110] (by decide +kernel)
set_option maxRecDepth 100000 in
theorem wsX10_in : ∀ w ∈ wsX10, w ∈ lw_tbl := pg_mem_r [133, 135, 137, 139, 141, 143, 145, 147] (by decide +kernel)
set_option maxRecDepth 100000 in
theorem wsX20_in : ∀ w ∈ wsX20, w ∈ lw_tbl := pg_mem_r [52, 54] (by decide +kernel)
set_option maxRecDepth 100000 in
theorem wsX30_in : ∀ w ∈ wsX30, w ∈ lw_tbl := pg_mem_r [74, 76, 78, 80, 82] (by decide +kernel)
set_option maxRecDepth 100000 in
theorem wsX40_in : ∀ w ∈ wsX40, w ∈ lw_tbl := pg_mem_r [164, 166, 168, 170, 172, 174, 176, 178, 180, 182, 184, 186, 188, 190] (by decide +kernel)
set_option maxRecDepth 100000 in
theorem wsX50_in : ∀ w ∈ wsX50, w ∈ lw_tbl := pg_mem_r [584, 586, 588, 590, 592, 594, 596, 598, 600, 602, 604, 606, 608, 610, 612, 614, 616, 618, 620, 622, 624, 626, 628, 630, 632, 634, 636, 638, 640, 642, 644] (by decide +kernel)
theorem wsL_law_r_in : ∀ w ∈ wsL_law0_r1 ++ (wsL_law0_r2 ++ (wsL_law0_r3 ++ (wsL_law0_r4 ++ (wsL_law0_r5 ++ (wsL_law0_r6 ++ (wsL_law0_r7 ++ (wsL_law0_r8 ++ (wsL_law0_r9 ++ (wsL_law0_r10 ++ (wsL_law0_r11 ++ (wsL_law0_r12 ++ (wsL_law0_r13 ++ (wsL_law0_r14 ++ (wsL_law0_r15 ++ (wsL_law0_r16 ++ (wsL_law0_r17 ++ (wsL_law0_r18 ++ (wsL_law0_r19 ++ (wsL_law0_r20 ++ (wsL_law0_r21 ++ (wsL_law0_r22 ++ wsL_law0_r23))))))))))))))))))))), w ∈ lw_tbl := fun w h => (List.mem_append.mp h).elim (fun h => wsL_law0_r1_in w h) (fun h => (List.mem_append.mp h).elim (fun h => wsL_law0_r2_in w h) (fun h => (List.mem_append.mp h).elim (fun h => wsL_law0_r3_in w h) (fun h => (List.mem_append.mp h).elim (fun h => wsL_law0_r4_in w h) (fun h => (List.mem_append.mp h).elim (fun h => wsL_law0_r5_in w h) (fun h => (List.mem_append.mp h).elim (fun h => wsL_law0_r6_in w h) (fun h => (List.mem_append.mp h).elim (fun h => wsL_law0_r7_in w h) (fun h => (List.mem_append.mp h).elim (fun h => wsL_law0_r8_in w h) (fun h => (List.mem_append.mp h).elim (fun h => wsL_law0_r9_in w h) (fun h => (List.mem_append.mp h).elim (fun h => wsL_law0_r10_in w h) (fun h => (List.mem_append.mp h).elim (fun h => wsL_law0_r11_in w h) (fun h => (List.mem_append.mp h).elim (fun h => wsL_law0_r12_in w h) (fun h => (List.mem_append.mp h).elim (fun h => wsL_law0_r13_in w h) (fun h => (List.mem_append.mp h).elim (fun h => wsL_law0_r14_in w h) (fun h => (List.mem_append.mp h).elim (fun h => wsL_law0_r15_in w h) (fun h => (List.mem_append.mp h).elim (fun h => wsL_law0_r16_in w h) (fun h => (List.mem_append.mp h).elim (fun h => wsL_law0_r17_in w h) (fun h => (List.mem_append.mp h).elim (fun h => wsL_law0_r18_in w h) (fun h => (List.mem_append.mp h).elim (fun h => wsL_law0_r19_in w h) (fun h => (List.mem_append.mp h).elim (fun h => wsL_law0_r20_in w h) (fun h => (List.mem_append.mp h).elim (fun h => wsL_law0_r21_in w h) (fun h => (List.mem_append.mp h).elim (fun h => wsL_law0_r22_in w h) (fun h => wsL_law0_r23_in w h))))))))))))))))))))))
theorem wsL_law_in0 : ∀ w ∈ wsL_law0, w ∈ lw_tbl := fun w h => (List.mem_append.mp h).elim (fun h => (List.mem_append.mp h).elim (fun h => (List.mem_append.mp h).elim (fun h => (List.mem_append.mp h).elim (fun h => (List.mem_append.mp h).elim (fun h => (List.mem_append.mp h).elim (fun h => (List.mem_append.mp h).elim (fun h => wsL_law_r_in w h) (fun h => wsX40_in w h)) (fun h => wsX50_in w h)) (fun h => wsX20_in w h)) (fun h => wsX30_in w h)) (fun h => wsX00_in w h)) (fun h => wsX10_in w h)) (fun h => absurd h List.not_mem_nil)
theorem wsL_law_in : ∀ w ∈ wsL_law, w ∈ lw_tbl := fun w h => (List.mem_append.mp h).elim (fun h => (List.mem_append.mp h).elim (fun h => (List.mem_append.mp h).elim (fun h => wsL_law_in0 w h) (fun h => wsL_law_x0 w h)) (fun h => wsL_law_x1 w h)) (fun h => wsL_law_x2 w h)
theorem inlX0 : ∀ w ∈ wsX00, w ∈ wsL_law := fun _ h => List.mem_append_left _ (List.mem_append_left _ (List.mem_append_left _ (List.mem_append_left _ (List.mem_append_left _ (List.mem_append_right _ h)))))
theorem inX0 : ∀ w ∈ wsX00, w ∈ lw_tbl := fun w h => wsL_law_in w (inlX0 w h)
theorem inlX1 : ∀ w ∈ wsX10, w ∈ wsL_law := fun _ h => List.mem_append_left _ (List.mem_append_left _ (List.mem_append_left _ (List.mem_append_left _ (List.mem_append_right _ h))))
theorem inX1 : ∀ w ∈ wsX10, w ∈ lw_tbl := fun w h => wsL_law_in w (inlX1 w h)
theorem inlX2 : ∀ w ∈ wsX20, w ∈ wsL_law := fun _ h => List.mem_append_left _ (List.mem_append_left _ (List.mem_append_left _ (List.mem_append_left _ (List.mem_append_left _ (List.mem_append_left _ (List.mem_append_left _ (List.mem_append_right _ h)))))))
theorem inX2 : ∀ w ∈ wsX20, w ∈ lw_tbl := fun w h => wsL_law_in w (inlX2 w h)
theorem inlX3 : ∀ w ∈ wsX30, w ∈ wsL_law := fun _ h => List.mem_append_left _ (List.mem_append_left _ (List.mem_append_left _ (List.mem_append_left _ (List.mem_append_left _ (List.mem_append_left _ (List.mem_append_right _ h))))))
theorem inX3 : ∀ w ∈ wsX30, w ∈ lw_tbl := fun w h => wsL_law_in w (inlX3 w h)
theorem inlX4 : ∀ w ∈ wsX40, w ∈ wsL_law := fun _ h => List.mem_append_left _ (List.mem_append_left _ (List.mem_append_left _ (List.mem_append_left _ (List.mem_append_left _ (List.mem_append_left _ (List.mem_append_left _ (List.mem_append_left _ (List.mem_append_left _ (List.mem_append_right _ h)))))))))
theorem inX4 : ∀ w ∈ wsX40, w ∈ lw_tbl := fun w h => wsL_law_in w (inlX4 w h)
theorem inlX5 : ∀ w ∈ wsX50, w ∈ wsL_law := fun _ h => List.mem_append_left _ (List.mem_append_left _ (List.mem_append_left _ (List.mem_append_left _ (List.mem_append_left _ (List.mem_append_left _ (List.mem_append_left _ (List.mem_append_left _ (List.mem_append_right _ h))))))))
theorem inX5 : ∀ w ∈ wsX50, w ∈ lw_tbl := fun w h => wsL_law_in w (inlX5 w h)
theorem inJ9 : ∀ w ∈ wsJ90, w ∈ lw_tbl := by decide +kernel
theorem inJ0 : ∀ w ∈ wsJ00, w ∈ lw_tbl := by decide +kernel
