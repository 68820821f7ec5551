theorem pg_mem_r {big ws : List Cond} (ps : List Nat) (hp : ws = ps.filterMap (fun i => big[i]?)) : ∀ w ∈ ws, w ∈ big := by
  intro w hw
  rw [hp] at hw
  obtain ⟨i, -, hi⟩ := List.mem_filterMap.mp hw
  exact List.mem_of_getElem? hi
set_option maxRecDepth 100000 in
theorem wsL_law0_r1_in : ∀ w ∈ wsL_law0_r1, w ∈ lw_tbl := pg_mem_r [25, 26, 13, 427, 504, 416, 48, 410, 505, 27, 28, 29, 30, 31, 32, 33, 34, 14, 141, 49, 50, 15, 142, 77] rfl
set_option maxRecDepth 100000 in
theorem wsL_law0_r2_in : ∀ w ∈ wsL_law0_r2, w ∈ lw_tbl := pg_mem_r [78, 16, 143, 104, 105, 17, 144, 148, 149, 35, 36, 37, 38, 39, 41, 51, 52, 53, 54, 55, 57, 76, 59, 61] rfl
set_option maxRecDepth 100000 in
theorem wsL_law0_r3_in : ∀ w ∈ wsL_law0_r3, w ∈ lw_tbl := pg_mem_r [63, 79, 80, 81, 82, 83, 85, 87, 89, 106, 107, 108, 109, 110, 112, 114, 376, 377, 378, 379, 380, 381, 382, 383] rfl
set_option maxRecDepth 100000 in
theorem wsL_law0_r4_in : ∀ w ∈ wsL_law0_r4, w ∈ lw_tbl := pg_mem_r [405, 406, 12, 407, 408, 409, 411, 421, 426, 400, 401, 402, 403, 404, 412, 413, 414, 415, 188, 260, 145, 146, 147, 189] rfl
set_option maxRecDepth 100000 in
theorem wsL_law0_r5_in : ∀ w ∈ wsL_law0_r5, w ∈ lw_tbl := pg_mem_r [190, 191, 192, 21, 261, 263, 1, 264, 265, 22, 417, 418, 419, 420, 40, 42, 299, 300, 301, 302, 23, 422, 423, 424] rfl
set_option maxRecDepth 100000 in
theorem wsL_law0_r6_in : ∀ w ∈ wsL_law0_r6, w ∈ lw_tbl := pg_mem_r [425, 111, 113, 428, 429, 430, 431, 432, 56, 58, 60, 62, 64, 433, 434, 435, 436, 117, 184, 185, 186, 187, 285, 286] rfl
set_option maxRecDepth 100000 in
theorem wsL_law0_r7_in : ∀ w ∈ wsL_law0_r7, w ∈ lw_tbl := pg_mem_r [24, 287, 292, 293, 294, 150, 151, 281, 283, 2, 284, 288, 289, 290, 291, 489, 490, 491, 492, 493, 494, 495, 440, 441] rfl
set_option maxRecDepth 100000 in
theorem wsL_law0_r8_in : ∀ w ∈ wsL_law0_r8, w ∈ lw_tbl := pg_mem_r [442, 443, 444, 445, 446, 447, 152, 496, 497, 498, 499, 153, 384, 385, 386, 387, 154, 485, 486, 487, 488, 343, 345, 6] rfl
set_option maxRecDepth 100000 in
theorem wsL_law0_r9_in : ∀ w ∈ wsL_law0_r9, w ∈ lw_tbl := pg_mem_r [346, 347, 349, 7, 350, 351, 353, 8, 354, 355, 356, 357, 358, 91, 359, 360, 361, 362, 367, 363, 365, 9, 366, 473] rfl
set_option maxRecDepth 100000 in
theorem wsL_law0_r10_in : ∀ w ∈ wsL_law0_r10, w ∈ lw_tbl := pg_mem_r [474, 475, 476, 500, 501, 502, 503, 388, 389, 390, 391, 92, 295, 296, 297, 298, 84, 86, 88, 90, 318, 320, 3, 321] rfl
set_option maxRecDepth 100000 in
theorem wsL_law0_r11_in : ∀ w ∈ wsL_law0_r11, w ∈ lw_tbl := pg_mem_r [392, 393, 394, 395, 325, 326, 327, 328, 119, 121, 331, 332, 333, 334, 120, 122, 123, 116, 335, 337, 4, 338, 339, 341] rfl
set_option maxRecDepth 100000 in
theorem wsL_law0_r12_in : ∀ w ∈ wsL_law0_r12, w ∈ lw_tbl := pg_mem_r [5, 342, 368, 369, 370, 371, 372, 373, 374, 375, 118, 396, 397, 398, 399, 115, 437, 438, 439, 448, 449, 450, 451, 453] rfl
set_option maxRecDepth 100000 in
theorem wsL_law0_r13_in : ∀ w ∈ wsL_law0_r13, w ∈ lw_tbl := pg_mem_r [455, 10, 456, 457, 458, 459, 460, 461, 462, 463, 464, 465, 466, 467, 468, 469, 470, 471, 477, 478, 479, 480, 481, 483] rfl
set_option maxRecDepth 100000 in
theorem wsL_law0_r14_in : ∀ w ∈ wsL_law0_r14, w ∈ lw_tbl := pg_mem_r [11, 484] rfl
set_option maxRecDepth 100000 in
theorem wsL_law_x0 : ∀ w ∈ (vx_atS RX4 208 "java/lang/IllegalArgumentException" ["java/lang/RuntimeException", "java/lang/Exception"]).filter goodWord, w ∈ lw_tbl := pg_mem_r [18, 214, 223, 227, 230, 232, 215, 216, 31, 32, 217, 222, 228, 248, 204, 249, 206, 250, 208, 218, 220, 210, 244, 245, 247, 210, 235, 236, 237, 238, 238, 239, 240, 241, 241, 242, 243, 244, 234, 193, 201, 202, 203, 205, 207, 209, 213, 212, 211] (by decide +kernel)
set_option maxRecDepth 100000 in
theorem wsL_law_x1 : ∀ w ∈ (vx_atS RX4 128 "java/lang/IllegalStateException" ["java/lang/RuntimeException", "java/lang/Exception"]).filter goodWord, w ∈ lw_tbl := pg_mem_r [18, 214, 223, 227, 230, 232, 215, 216, 31, 32, 217, 222, 228, 248, 204, 249, 206, 250, 208, 218, 220, 210, 244, 245, 247, 210, 276, 277, 278, 238, 238, 239, 240, 241, 241, 242, 243, 244, 275, 266, 268, 225, 269, 270, 271, 272, 213, 212, 273] (by decide +kernel)
set_option maxRecDepth 100000 in
theorem wsL_law_x2 : ∀ w ∈ (vx_atS RX4 203 "java/lang/IndexOutOfBoundsException" ["java/lang/RuntimeException", "java/lang/Exception"]).filter goodWord, w ∈ lw_tbl := pg_mem_r [18, 214, 223, 227, 230, 232, 215, 216, 31, 32, 217, 222, 228, 248, 204, 249, 206, 250, 208, 218, 220, 210, 244, 245, 247, 210, 313, 314, 315, 238, 238, 239, 240, 241, 241, 242, 243, 244, 312, 303, 305, 226, 306, 307, 308, 309, 213, 212, 310] (by decide +kernel)
set_option maxRecDepth 100000 in
theorem wsX00_in : ∀ w ∈ wsX00, w ∈ lw_tbl := pg_mem_r [93, 95, 97, 99, 101] (by decide +kernel)
set_option maxRecDepth 100000 in
theorem wsX10_in : ∀ w ∈ wsX10, w ∈ lw_tbl := pg_mem_r [124, 126, 128, 130, 132, 134, 136, 138] (by decide +kernel)
set_option maxRecDepth 100000 in
theorem wsX20_in : ∀ w ∈ wsX20, w ∈ lw_tbl := pg_mem_r [43, 45] (by decide +kernel)
set_option maxRecDepth 100000 in
theorem wsX30_in : ∀ w ∈ wsX30, w ∈ lw_tbl := pg_mem_r [65, 67, 69, 71, 73] (by decide +kernel)
set_option maxRecDepth 100000 in
theorem wsX40_in : ∀ w ∈ wsX40, w ∈ lw_tbl := pg_mem_r [155, 157, 159, 161, 163, 165, 167, 169, 171, 173, 175, 177, 179, 181] (by decide +kernel)
theorem wsL_law_r_in : ∀ w ∈ wsL_law0_r1 ++ (wsL_law0_r2 ++ (wsL_law0_r3 ++ (wsL_law0_r4 ++ (wsL_law0_r5 ++ (wsL_law0_r6 ++ (wsL_law0_r7 ++ (wsL_law0_r8 ++ (wsL_law0_r9 ++ (wsL_law0_r10 ++ (wsL_law0_r11 ++ (wsL_law0_r12 ++ (wsL_law0_r13 ++ wsL_law0_r14)))))))))))), w ∈ lw_tbl := fun w h => (List.mem_append.mp h).elim (fun h => wsL_law0_r1_in w h) (fun h => (List.mem_append.mp h).elim (fun h => wsL_law0_r2_in w h) (fun h => (List.mem_append.mp h).elim (fun h => wsL_law0_r3_in w h) (fun h => (List.mem_append.mp h).elim (fun h => wsL_law0_r4_in w h) (fun h => (List.mem_append.mp h).elim (fun h => wsL_law0_r5_in w h) (fun h => (List.mem_append.mp h).elim (fun h => wsL_law0_r6_in w h) (fun h => (List.mem_append.mp h).elim (fun h => wsL_law0_r7_in w h) (fun h => (List.mem_append.mp h).elim (fun h => wsL_law0_r8_in w h) (fun h => (List.mem_append.mp h).elim (fun h => wsL_law0_r9_in w h) (fun h => (List.mem_append.mp h).elim (fun h => wsL_law0_r10_in w h) (fun h => (List.mem_append.mp h).elim (fun h => wsL_law0_r11_in w h) (fun h => (List.mem_append.mp h).elim (fun h => wsL_law0_r12_in w h) (fun h => (List.mem_append.mp h).elim (fun h => wsL_law0_r13_in w h) (fun h => wsL_law0_r14_in w h)))))))))))))
theorem wsL_law_in0 : ∀ w ∈ wsL_law0, w ∈ lw_tbl := fun w h => (List.mem_append.mp h).elim (fun h => (List.mem_append.mp h).elim (fun h => (List.mem_append.mp h).elim (fun h => (List.mem_append.mp h).elim (fun h => (List.mem_append.mp h).elim (fun h => (List.mem_append.mp h).elim (fun h => wsL_law_r_in w h) (fun h => wsX40_in w h)) (fun h => wsX20_in w h)) (fun h => wsX30_in w h)) (fun h => wsX00_in w h)) (fun h => wsX10_in w h)) (fun h => absurd h List.not_mem_nil)
theorem wsL_law_in : ∀ w ∈ wsL_law, w ∈ lw_tbl := fun w h => (List.mem_append.mp h).elim (fun h => (List.mem_append.mp h).elim (fun h => (List.mem_append.mp h).elim (fun h => wsL_law_in0 w h) (fun h => wsL_law_x0 w h)) (fun h => wsL_law_x1 w h)) (fun h => wsL_law_x2 w h)
theorem inlX0 : ∀ w ∈ wsX00, w ∈ wsL_law := fun _ h => List.mem_append_left _ (List.mem_append_left _ (List.mem_append_left _ (List.mem_append_left _ (List.mem_append_left _ (List.mem_append_right _ h)))))
theorem inX0 : ∀ w ∈ wsX00, w ∈ lw_tbl := fun w h => wsL_law_in w (inlX0 w h)
theorem inlX1 : ∀ w ∈ wsX10, w ∈ wsL_law := fun _ h => List.mem_append_left _ (List.mem_append_left _ (List.mem_append_left _ (List.mem_append_left _ (List.mem_append_right _ h))))
theorem inX1 : ∀ w ∈ wsX10, w ∈ lw_tbl := fun w h => wsL_law_in w (inlX1 w h)
theorem inlX2 : ∀ w ∈ wsX20, w ∈ wsL_law := fun _ h => List.mem_append_left _ (List.mem_append_left _ (List.mem_append_left _ (List.mem_append_left _ (List.mem_append_left _ (List.mem_append_left _ (List.mem_append_left _ (List.mem_append_right _ h)))))))
theorem inX2 : ∀ w ∈ wsX20, w ∈ lw_tbl := fun w h => wsL_law_in w (inlX2 w h)
theorem inlX3 : ∀ w ∈ wsX30, w ∈ wsL_law := fun _ h => List.mem_append_left _ (List.mem_append_left _ (List.mem_append_left _ (List.mem_append_left _ (List.mem_append_left _ (List.mem_append_left _ (List.mem_append_right _ h))))))
theorem inX3 : ∀ w ∈ wsX30, w ∈ lw_tbl := fun w h => wsL_law_in w (inlX3 w h)
theorem inlX4 : ∀ w ∈ wsX40, w ∈ wsL_law := fun _ h => List.mem_append_left _ (List.mem_append_left _ (List.mem_append_left _ (List.mem_append_left _ (List.mem_append_left _ (List.mem_append_left _ (List.mem_append_left _ (List.mem_append_left _ (List.mem_append_right _ h))))))))
theorem inX4 : ∀ w ∈ wsX40, w ∈ lw_tbl := fun w h => wsL_law_in w (inlX4 w h)
theorem inJ9 : ∀ w ∈ wsJ90, w ∈ lw_tbl := by decide +kernel
theorem inJ0 : ∀ w ∈ wsJ00, w ∈ lw_tbl := by decide +kernel
