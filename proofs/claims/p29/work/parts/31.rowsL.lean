theorem dL_told_0 : decode cL_told 0 = .ok (.iload_n 1, 1) := by decide +kernel
theorem dL_told_1 : decode cL_told 1 = .ok (.aload_n 0, 1) := by decide +kernel
theorem dL_told_2 : decode cL_told 2 = .ok (.arraylength, 1) := by decide +kernel
theorem dL_told_3 : decode cL_told 3 = .ok (.if_icmp .ge 9, 3) := by decide +kernel
theorem dL_told_6 : decode cL_told 6 = .ok (.aload_n 0, 1) := by decide +kernel
theorem dL_told_7 : decode cL_told 7 = .ok (.iload_n 1, 1) := by decide +kernel
theorem dL_told_8 : decode cL_told 8 = .ok (.iaload, 1) := by decide +kernel
theorem dL_told_9 : decode cL_told 9 = .ok (.goto 14, 3) := by decide +kernel
theorem dL_told_12 : decode cL_told 12 = .ok (.ldc 7, 2) := by decide +kernel
theorem dL_told_14 : decode cL_told 14 = .ok (.iload_n 1, 1) := by decide +kernel
theorem dL_told_15 : decode cL_told 15 = .ok (.iconst 5, 1) := by decide +kernel
theorem dL_told_16 : decode cL_told 16 = .ok (.iadd, 1) := by decide +kernel
theorem dL_told_17 : decode cL_told 17 = .ok (.imul, 1) := by decide +kernel
theorem dL_told_18 : decode cL_told 18 = .ok (.iload_n 1, 1) := by decide +kernel
theorem dL_told_19 : decode cL_told 19 = .ok (.bipush 6, 2) := by decide +kernel
theorem dL_told_21 : decode cL_told 21 = .ok (.iadd, 1) := by decide +kernel
theorem dL_told_22 : decode cL_told 22 = .ok (.imul, 1) := by decide +kernel
theorem dL_told_23 : decode cL_told 23 = .ok (.ldc 8, 2) := by decide +kernel
theorem dL_told_25 : decode cL_told 25 = .ok (.iand, 1) := by decide +kernel
theorem dL_told_26 : decode cL_told 26 = .ok (.ireturn, 1) := by decide +kernel
set_option maxRecDepth 20000 in
theorem ggL_terms_L_told : GoodIn wsL_terms wsL_told := goodIn_r _ [12, 13, 14] (by decide +kernel) (by decide +kernel)
set_option maxRecDepth 20000 in
theorem gL_terms_L_told : GoodIn wsL_terms (va_wsS RL 9 yL_told wsL_told) := goodIn_app (goodIn_of _ (by decide +kernel)) ggL_terms_L_told
set_option maxRecDepth 20000 in
theorem ggL_terms_X4_setPrice : GoodIn wsL_terms wsX4_setPrice := goodIn_ca (goodIn_ca (goodIn_r _ [19, 20, 21, 22, 23, 24, 25, 26, 18, 27, 28, 29, 30, 31, 32, 33, 34, 35, 36, 72, 73, 74, 75, 76, 77, 78, 79, 80, 81, 82, 83, 84, 85] (by decide +kernel) (by decide +kernel)) (goodIn_sub (fun _ h => List.mem_cons_of_mem _ (List.mem_append_left _ (List.mem_append_left _ (List.mem_append_right _ h)))) (by decide +kernel))) (goodIn_sub (fun _ h => List.mem_cons_of_mem _ (List.mem_append_left _ (List.mem_append_right _ h))) (by decide +kernel))
set_option maxRecDepth 20000 in
theorem gL_terms_X4_setPrice : GoodIn wsL_terms (wsV RL 19 RX4 yX4_setPrice wsX4_setPrice) := goodIn_app (goodIn_of _ (by decide +kernel)) ggL_terms_X4_setPrice
set_option maxRecDepth 20000 in
theorem ggL_terms_X4_setPart : GoodIn wsL_terms wsX4_setPart := goodIn_ca (goodIn_ca (goodIn_ca (goodIn_r _ [40, 20, 41, 42, 43, 44, 45, 18, 46, 47, 48, 25, 26, 27, 28, 29, 30, 31, 32, 33, 34, 35, 36, 72, 73, 74, 75, 76, 77, 78, 79, 80, 81, 82, 83, 84, 85, 86, 87] (by decide +kernel) (by decide +kernel)) (goodIn_sub (fun _ h => List.mem_cons_of_mem _ (List.mem_append_right _ h)) (by decide +kernel))) (goodIn_sub (fun _ h => List.mem_cons_of_mem _ (List.mem_append_left _ (List.mem_append_left _ (List.mem_append_right _ h)))) (by decide +kernel))) (goodIn_sub (fun _ h => List.mem_cons_of_mem _ (List.mem_append_left _ (List.mem_append_right _ h))) (by decide +kernel))
set_option maxRecDepth 20000 in
theorem gL_terms_X4_setPart : GoodIn wsL_terms (wsV RL 26 RX4 yX4_setPart wsX4_setPart) := goodIn_app (goodIn_of _ (by decide +kernel)) ggL_terms_X4_setPart
set_option maxRecDepth 20000 in
theorem ggL_terms_X4_setYear : GoodIn wsL_terms wsX4_setYear := goodIn_ca (goodIn_ca (goodIn_ca (goodIn_r _ [52, 20, 53, 54, 55, 44, 45, 18, 46, 47, 48, 25, 26, 27, 28, 29, 30, 31, 32, 33, 34, 35, 36, 72, 73, 74, 75, 76, 77, 78, 79, 80, 81, 82, 83, 84, 85, 88, 89, 90, 91, 92, 93, 94, 95] (by decide +kernel) (by decide +kernel)) (goodIn_sub (fun _ h => List.mem_cons_of_mem _ (List.mem_append_right _ h)) (by decide +kernel))) (goodIn_sub (fun _ h => List.mem_cons_of_mem _ (List.mem_append_left _ (List.mem_append_left _ (List.mem_append_right _ h)))) (by decide +kernel))) (goodIn_sub (fun _ h => List.mem_cons_of_mem _ (List.mem_append_left _ (List.mem_append_right _ h))) (by decide +kernel))
set_option maxRecDepth 20000 in
theorem gL_terms_X4_setYear : GoodIn wsL_terms (wsV RL 30 RX4 yX4_setYear wsX4_setYear) := goodIn_app (goodIn_of _ (by decide +kernel)) ggL_terms_X4_setYear
set_option maxRecDepth 20000 in
theorem ggL_terms_X4_setKind : GoodIn wsL_terms wsX4_setKind := goodIn_ca (goodIn_ca (goodIn_ca (goodIn_r _ [59, 20, 60, 61, 62, 63, 64, 65, 66, 44, 45, 18, 46, 47, 48, 25, 26, 27, 28, 29, 30, 31, 32, 33, 34, 35, 36, 72, 73, 74, 75, 76, 77, 78, 79, 80, 81, 82, 83, 84, 85, 96, 97, 98, 99, 100] (by decide +kernel) (by decide +kernel)) (goodIn_sub (fun _ h => List.mem_cons_of_mem _ (List.mem_append_right _ h)) (by decide +kernel))) (goodIn_sub (fun _ h => List.mem_cons_of_mem _ (List.mem_append_left _ (List.mem_append_left _ (List.mem_append_right _ h)))) (by decide +kernel))) (goodIn_sub (fun _ h => List.mem_cons_of_mem _ (List.mem_append_left _ (List.mem_append_right _ h))) (by decide +kernel))
set_option maxRecDepth 20000 in
theorem gL_terms_X4_setKind : GoodIn wsL_terms (wsV RL 35 RX4 yX4_setKind wsX4_setKind) := goodIn_app (goodIn_of _ (by decide +kernel)) ggL_terms_X4_setKind
set_option maxRecDepth 20000 in
theorem ggL_terms_X4_setCarry : GoodIn wsL_terms wsX4_setCarry := goodIn_ca (goodIn_r _ [70, 53, 71, 30, 31, 32, 18, 33, 34, 35, 36, 72, 73, 74, 75, 76, 77, 78, 79, 80, 81, 82, 83, 84, 85, 88, 89, 90, 91, 92, 93, 94, 95] (by decide +kernel) (by decide +kernel)) (goodIn_sub (fun _ h => List.mem_cons_of_mem _ (List.mem_append_left _ (List.mem_append_right _ h))) (by decide +kernel))
set_option maxRecDepth 20000 in
theorem gL_terms_X4_setCarry : GoodIn wsL_terms (wsV RL 39 RX4 yX4_setCarry wsX4_setCarry) := goodIn_app (goodIn_of _ (by decide +kernel)) ggL_terms_X4_setCarry
theorem dL_terms_0 : decode cL_terms 0 = .ok (.aload_n 0, 1) := by decide +kernel
theorem dL_terms_1 : decode cL_terms 1 = .ok (.aload_n 1, 1) := by decide +kernel
theorem dL_terms_2 : decode cL_terms 2 = .ok (.iconst 0, 1) := by decide +kernel
theorem dL_terms_3 : decode cL_terms 3 = .ok (.invokestatic 9, 3) := by decide +kernel
theorem dL_terms_6 : decode cL_terms 6 = .ok (.ldc 15, 2) := by decide +kernel
theorem dL_terms_8 : decode cL_terms 8 = .ok (.irem, 1) := by decide +kernel
theorem dL_terms_9 : decode cL_terms 9 = .ok (.aload_n 1, 1) := by decide +kernel
theorem dL_terms_10 : decode cL_terms 10 = .ok (.iconst 1, 1) := by decide +kernel
theorem dL_terms_11 : decode cL_terms 11 = .ok (.invokestatic 9, 3) := by decide +kernel
theorem dL_terms_14 : decode cL_terms 14 = .ok (.ldc 16, 2) := by decide +kernel
theorem dL_terms_16 : decode cL_terms 16 = .ok (.irem, 1) := by decide +kernel
theorem dL_terms_17 : decode cL_terms 17 = .ok (.ldc 17, 2) := by decide +kernel
theorem dL_terms_19 : decode cL_terms 19 = .ok (.isub, 1) := by decide +kernel
theorem dL_terms_20 : decode cL_terms 20 = .ok (.aload_n 1, 1) := by decide +kernel
theorem dL_terms_21 : decode cL_terms 21 = .ok (.iconst 2, 1) := by decide +kernel
theorem dL_terms_22 : decode cL_terms 22 = .ok (.invokestatic 9, 3) := by decide +kernel
theorem dL_terms_25 : decode cL_terms 25 = .ok (.ldc 18, 2) := by decide +kernel
theorem dL_terms_27 : decode cL_terms 27 = .ok (.irem, 1) := by decide +kernel
theorem dL_terms_28 : decode cL_terms 28 = .ok (.invokevirtual 19, 3) := by decide +kernel
theorem dL_terms_31 : decode cL_terms 31 = .ok (.iconst 0, 1) := by decide +kernel
theorem dL_terms_32 : decode cL_terms 32 = .ok (.istore_n 2, 1) := by decide +kernel
theorem dL_terms_33 : decode cL_terms 33 = .ok (.iload_n 2, 1) := by decide +kernel
theorem dL_terms_34 : decode cL_terms 34 = .ok (.iconst 4, 1) := by decide +kernel
theorem dL_terms_35 : decode cL_terms 35 = .ok (.if_icmp .ge 74, 3) := by decide +kernel
theorem dL_terms_38 : decode cL_terms 38 = .ok (.aload_n 0, 1) := by decide +kernel
theorem dL_terms_39 : decode cL_terms 39 = .ok (.iload_n 2, 1) := by decide +kernel
theorem dL_terms_40 : decode cL_terms 40 = .ok (.aload_n 1, 1) := by decide +kernel
theorem dL_terms_41 : decode cL_terms 41 = .ok (.iload_n 2, 1) := by decide +kernel
theorem dL_terms_42 : decode cL_terms 42 = .ok (.iconst 3, 1) := by decide +kernel
theorem dL_terms_43 : decode cL_terms 43 = .ok (.iadd, 1) := by decide +kernel
theorem dL_terms_44 : decode cL_terms 44 = .ok (.invokestatic 9, 3) := by decide +kernel
theorem dL_terms_47 : decode cL_terms 47 = .ok (.ldc 25, 2) := by decide +kernel
theorem dL_terms_49 : decode cL_terms 49 = .ok (.irem, 1) := by decide +kernel
theorem dL_terms_50 : decode cL_terms 50 = .ok (.iconst 1, 1) := by decide +kernel
theorem dL_terms_51 : decode cL_terms 51 = .ok (.aload_n 1, 1) := by decide +kernel
theorem dL_terms_52 : decode cL_terms 52 = .ok (.iload_n 2, 1) := by decide +kernel
theorem dL_terms_53 : decode cL_terms 53 = .ok (.iconst 3, 1) := by decide +kernel
theorem dL_terms_54 : decode cL_terms 54 = .ok (.iadd, 1) := by decide +kernel
theorem dL_terms_55 : decode cL_terms 55 = .ok (.invokestatic 9, 3) := by decide +kernel
theorem dL_terms_58 : decode cL_terms 58 = .ok (.ldc 25, 2) := by decide +kernel
theorem dL_terms_60 : decode cL_terms 60 = .ok (.idiv, 1) := by decide +kernel
theorem dL_terms_61 : decode cL_terms 61 = .ok (.sipush 900, 3) := by decide +kernel
theorem dL_terms_64 : decode cL_terms 64 = .ok (.irem, 1) := by decide +kernel
theorem dL_terms_65 : decode cL_terms 65 = .ok (.iadd, 1) := by decide +kernel
theorem dL_terms_66 : decode cL_terms 66 = .ok (.invokevirtual 26, 3) := by decide +kernel
theorem dL_terms_69 : decode cL_terms 69 = .ok (.aload_n 0, 1) := by decide +kernel
theorem dL_terms_70 : decode cL_terms 70 = .ok (.iload_n 2, 1) := by decide +kernel
theorem dL_terms_71 : decode cL_terms 71 = .ok (.aload_n 1, 1) := by decide +kernel
theorem dL_terms_72 : decode cL_terms 72 = .ok (.iload_n 2, 1) := by decide +kernel
theorem dL_terms_73 : decode cL_terms 73 = .ok (.bipush 7, 2) := by decide +kernel
theorem dL_terms_75 : decode cL_terms 75 = .ok (.iadd, 1) := by decide +kernel
theorem dL_terms_76 : decode cL_terms 76 = .ok (.invokestatic 9, 3) := by decide +kernel
theorem dL_terms_79 : decode cL_terms 79 = .ok (.ldc 29, 2) := by decide +kernel
theorem dL_terms_81 : decode cL_terms 81 = .ok (.irem, 1) := by decide +kernel
theorem dL_terms_82 : decode cL_terms 82 = .ok (.aload_n 1, 1) := by decide +kernel
theorem dL_terms_83 : decode cL_terms 83 = .ok (.iload_n 2, 1) := by decide +kernel
theorem dL_terms_84 : decode cL_terms 84 = .ok (.bipush 7, 2) := by decide +kernel
theorem dL_terms_86 : decode cL_terms 86 = .ok (.iadd, 1) := by decide +kernel
theorem dL_terms_87 : decode cL_terms 87 = .ok (.invokestatic 9, 3) := by decide +kernel
theorem dL_terms_90 : decode cL_terms 90 = .ok (.ldc 29, 2) := by decide +kernel
theorem dL_terms_92 : decode cL_terms 92 = .ok (.idiv, 1) := by decide +kernel
theorem dL_terms_93 : decode cL_terms 93 = .ok (.sipush 20000, 3) := by decide +kernel
theorem dL_terms_96 : decode cL_terms 96 = .ok (.irem, 1) := by decide +kernel
theorem dL_terms_97 : decode cL_terms 97 = .ok (.bipush 10, 2) := by decide +kernel
theorem dL_terms_99 : decode cL_terms 99 = .ok (.imul, 1) := by decide +kernel
theorem dL_terms_100 : decode cL_terms 100 = .ok (.invokevirtual 30, 3) := by decide +kernel
theorem dL_terms_103 : decode cL_terms 103 = .ok (.iinc 2 1, 3) := by decide +kernel
theorem dL_terms_106 : decode cL_terms 106 = .ok (.goto (-73), 3) := by decide +kernel
theorem dL_terms_109 : decode cL_terms 109 = .ok (.iconst 0, 1) := by decide +kernel
theorem dL_terms_110 : decode cL_terms 110 = .ok (.istore_n 2, 1) := by decide +kernel
theorem dL_terms_111 : decode cL_terms 111 = .ok (.iload_n 2, 1) := by decide +kernel
theorem dL_terms_112 : decode cL_terms 112 = .ok (.iconst 3, 1) := by decide +kernel
theorem dL_terms_113 : decode cL_terms 113 = .ok (.if_icmp .ge 62, 3) := by decide +kernel
theorem dL_terms_116 : decode cL_terms 116 = .ok (.aload_n 1, 1) := by decide +kernel
theorem dL_terms_117 : decode cL_terms 117 = .ok (.iload_n 2, 1) := by decide +kernel
theorem dL_terms_118 : decode cL_terms 118 = .ok (.bipush 11, 2) := by decide +kernel
theorem dL_terms_120 : decode cL_terms 120 = .ok (.iadd, 1) := by decide +kernel
theorem dL_terms_121 : decode cL_terms 121 = .ok (.invokestatic 9, 3) := by decide +kernel
theorem dL_terms_124 : decode cL_terms 124 = .ok (.istore_n 3, 1) := by decide +kernel
theorem dL_terms_125 : decode cL_terms 125 = .ok (.aload_n 0, 1) := by decide +kernel
theorem dL_terms_126 : decode cL_terms 126 = .ok (.iload_n 2, 1) := by decide +kernel
theorem dL_terms_127 : decode cL_terms 127 = .ok (.iload_n 3, 1) := by decide +kernel
theorem dL_terms_128 : decode cL_terms 128 = .ok (.sipush 3000, 3) := by decide +kernel
theorem dL_terms_131 : decode cL_terms 131 = .ok (.irem, 1) := by decide +kernel
theorem dL_terms_132 : decode cL_terms 132 = .ok (.iload_n 3, 1) := by decide +kernel
theorem dL_terms_133 : decode cL_terms 133 = .ok (.sipush 3000, 3) := by decide +kernel
theorem dL_terms_136 : decode cL_terms 136 = .ok (.idiv, 1) := by decide +kernel
theorem dL_terms_137 : decode cL_terms 137 = .ok (.ldc 33, 2) := by decide +kernel
theorem dL_terms_139 : decode cL_terms 139 = .ok (.irem, 1) := by decide +kernel
theorem dL_terms_140 : decode cL_terms 140 = .ok (.iload_n 3, 1) := by decide +kernel
theorem dL_terms_141 : decode cL_terms 141 = .ok (.iconst 2, 1) := by decide +kernel
theorem dL_terms_142 : decode cL_terms 142 = .ok (.irem, 1) := by decide +kernel
theorem dL_terms_143 : decode cL_terms 143 = .ok (.ifCond .ne 7, 3) := by decide +kernel
theorem dL_terms_146 : decode cL_terms 146 = .ok (.iconst 1, 1) := by decide +kernel
theorem dL_terms_147 : decode cL_terms 147 = .ok (.goto 4, 3) := by decide +kernel
theorem dL_terms_150 : decode cL_terms 150 = .ok (.iconst 0, 1) := by decide +kernel
theorem dL_terms_151 : decode cL_terms 151 = .ok (.iload_n 3, 1) := by decide +kernel
theorem dL_terms_152 : decode cL_terms 152 = .ok (.bipush 11, 2) := by decide +kernel
theorem dL_terms_154 : decode cL_terms 154 = .ok (.idiv, 1) := by decide +kernel
theorem dL_terms_155 : decode cL_terms 155 = .ok (.ldc 34, 2) := by decide +kernel
theorem dL_terms_157 : decode cL_terms 157 = .ok (.irem, 1) := by decide +kernel
theorem dL_terms_158 : decode cL_terms 158 = .ok (.iload_n 3, 1) := by decide +kernel
theorem dL_terms_159 : decode cL_terms 159 = .ok (.bipush 77, 2) := by decide +kernel
theorem dL_terms_161 : decode cL_terms 161 = .ok (.idiv, 1) := by decide +kernel
theorem dL_terms_162 : decode cL_terms 162 = .ok (.sipush 1500, 3) := by decide +kernel
theorem dL_terms_165 : decode cL_terms 165 = .ok (.irem, 1) := by decide +kernel
theorem dL_terms_166 : decode cL_terms 166 = .ok (.invokevirtual 35, 3) := by decide +kernel
theorem dL_terms_169 : decode cL_terms 169 = .ok (.iinc 2 1, 3) := by decide +kernel
theorem dL_terms_172 : decode cL_terms 172 = .ok (.goto (-61), 3) := by decide +kernel
theorem dL_terms_175 : decode cL_terms 175 = .ok (.aload_n 0, 1) := by decide +kernel
theorem dL_terms_176 : decode cL_terms 176 = .ok (.aload_n 1, 1) := by decide +kernel
theorem dL_terms_177 : decode cL_terms 177 = .ok (.bipush 14, 2) := by decide +kernel
theorem dL_terms_179 : decode cL_terms 179 = .ok (.invokestatic 9, 3) := by decide +kernel
theorem dL_terms_182 : decode cL_terms 182 = .ok (.iconst 3, 1) := by decide +kernel
theorem dL_terms_183 : decode cL_terms 183 = .ok (.irem, 1) := by decide +kernel
theorem dL_terms_184 : decode cL_terms 184 = .ok (.ifCond .le 7, 3) := by decide +kernel
theorem dL_terms_187 : decode cL_terms 187 = .ok (.iconst 1, 1) := by decide +kernel
theorem dL_terms_188 : decode cL_terms 188 = .ok (.goto 4, 3) := by decide +kernel
theorem dL_terms_191 : decode cL_terms 191 = .ok (.iconst 0, 1) := by decide +kernel
theorem dL_terms_192 : decode cL_terms 192 = .ok (.invokevirtual 39, 3) := by decide +kernel
theorem dL_terms_195 : decode cL_terms 195 = .ok (.return_, 1) := by decide +kernel
set_option maxRecDepth 20000 in
theorem ggL_does_X4_claims : GoodIn wsL_does wsX4_claims := goodIn_r _ [5, 6, 7, 131, 132, 133, 134, 135, 136, 137, 138, 139, 140, 141, 142, 143, 144, 145, 146, 147, 148, 149] (by decide +kernel) (by decide +kernel)
set_option maxRecDepth 20000 in
theorem gL_does_X4_claims : GoodIn wsL_does (wsV RL 43 RX4 yX4_claims wsX4_claims) := goodIn_app (goodIn_of _ (by decide +kernel)) ggL_does_X4_claims
set_option maxRecDepth 20000 in
theorem ggL_does_X4_settledAt : GoodIn wsL_does wsX4_settledAt := goodIn_ca (goodIn_r _ [11, 6, 7, 12, 13, 14, 4, 15, 16, 17, 131, 132, 133, 134, 135, 136, 137, 138, 139, 140, 141, 142, 143, 144, 145, 146, 147, 148, 149] (by decide +kernel) (by decide +kernel)) (goodIn_sub (fun _ h => List.mem_cons_of_mem _ (List.mem_append_left _ (List.mem_append_left _ (List.mem_append_right _ h)))) (by decide +kernel))
set_option maxRecDepth 20000 in
theorem gL_does_X4_settledAt : GoodIn wsL_does (wsV RL 47 RX4 yX4_settledAt wsX4_settledAt) := goodIn_app (goodIn_of _ (by decide +kernel)) ggL_does_X4_settledAt
set_option maxRecDepth 20000 in
theorem ggL_does_X4_held : GoodIn wsL_does wsX4_held := goodIn_r _ [21, 22, 131, 132, 133, 134, 135, 136, 137, 138, 139, 140, 141, 142, 143, 144] (by decide +kernel) (by decide +kernel)
set_option maxRecDepth 20000 in
theorem gL_does_X4_held : GoodIn wsL_does (wsV RL 51 RX4 yX4_held wsX4_held) := goodIn_app (goodIn_of _ (by decide +kernel)) ggL_does_X4_held
set_option maxRecDepth 20000 in
theorem ggL_does_X4_returned : GoodIn wsL_does wsX4_returned := goodIn_r _ [26, 27, 131, 132, 133, 134, 135, 136, 137, 138, 139, 140, 141, 142, 143, 144] (by decide +kernel) (by decide +kernel)
set_option maxRecDepth 20000 in
theorem gL_does_X4_returned : GoodIn wsL_does (wsV RL 54 RX4 yX4_returned wsX4_returned) := goodIn_app (goodIn_of _ (by decide +kernel)) ggL_does_X4_returned
set_option maxRecDepth 20000 in
theorem ggL_does_X4_day : GoodIn wsL_does wsX4_day := goodIn_r _ [31, 32, 131, 132, 133, 134, 135, 136, 137, 138, 139, 140, 141, 142, 143, 144] (by decide +kernel) (by decide +kernel)
set_option maxRecDepth 20000 in
theorem gL_does_X4_day : GoodIn wsL_does (wsV RL 57 RX4 yX4_day wsX4_day) := goodIn_app (goodIn_of _ (by decide +kernel)) ggL_does_X4_day
set_option maxRecDepth 20000 in
theorem ggL_does_X4_advance : GoodIn wsL_does wsX4_advance := goodIn_ca (goodIn_ca (goodIn_r _ [36, 37, 38, 32, 39, 40, 4, 41, 42, 43, 44, 45, 46, 47, 48, 49, 50, 51, 52, 6, 22, 53, 54, 55, 56, 57, 58, 59, 60, 61, 62, 63, 64, 65, 66, 67, 68, 131, 132, 133, 134, 135, 136, 137, 138, 139, 140, 141, 142, 143, 144, 150, 151, 145, 146, 147, 148, 149] (by decide +kernel) (by decide +kernel)) (goodIn_sub (fun _ h => List.mem_cons_of_mem _ (List.mem_append_left _ (List.mem_append_right _ h))) (by decide +kernel))) (goodIn_sub (fun _ h => List.mem_cons_of_mem _ (List.mem_append_right _ h)) (by decide +kernel))
set_option maxRecDepth 20000 in
theorem gL_does_X4_advance : GoodIn wsL_does (wsV RL 60 RX4 yX4_advance wsX4_advance) := goodIn_app (goodIn_of _ (by decide +kernel)) ggL_does_X4_advance
set_option maxRecDepth 20000 in
theorem ggL_does_X4_offer : GoodIn wsL_does wsX4_offer := goodIn_ca (goodIn_ca (goodIn_ca (goodIn_r _ [72, 6, 7, 12, 73, 74, 13, 14, 4, 15, 16, 17, 75, 76, 77, 37, 38, 39, 40, 41, 42, 43, 131, 132, 133, 134, 135, 136, 137, 138, 139, 140, 141, 142, 143, 144, 145, 146, 147, 148, 149] (by decide +kernel) (by decide +kernel)) (goodIn_sub (fun _ h => List.mem_cons_of_mem _ (List.mem_append_left _ (List.mem_append_left _ (List.mem_append_right _ h)))) (by decide +kernel))) (goodIn_sub (fun _ h => List.mem_cons_of_mem _ (List.mem_append_left _ (List.mem_append_right _ h))) (by decide +kernel))) (goodIn_sub (fun _ h => List.mem_cons_of_mem _ (List.mem_append_right _ h)) (by decide +kernel))
set_option maxRecDepth 20000 in
theorem gL_does_X4_offer : GoodIn wsL_does (wsV RL 63 RX4 yX4_offer wsX4_offer) := goodIn_app (goodIn_of _ (by decide +kernel)) ggL_does_X4_offer
set_option maxRecDepth 20000 in
theorem ggL_does_X4_due : GoodIn wsL_does wsX4_due := goodIn_r _ [81, 82, 83, 84, 4, 85, 86, 87, 88, 89, 90, 6, 91, 92, 93, 94, 64, 95, 66, 96, 67, 97, 98, 99, 100, 101, 102, 103, 104, 105, 106, 107, 108, 109, 110, 111, 112, 131, 132, 133, 134, 135, 136, 137, 138, 139, 140, 141, 142, 143, 144, 152, 153, 154, 155, 156, 145, 146, 147, 148, 149] (by decide +kernel) (by decide +kernel)
set_option maxRecDepth 20000 in
theorem gL_does_X4_due : GoodIn wsL_does (wsV RL 67 RX4 yX4_due wsX4_due) := goodIn_app (goodIn_of _ (by decide +kernel)) ggL_does_X4_due
set_option maxRecDepth 20000 in
theorem ggL_does_X4_decide : GoodIn wsL_does wsX4_decide := goodIn_ca (goodIn_ca (goodIn_ca (goodIn_r _ [116, 6, 7, 12, 74, 73, 13, 14, 4, 15, 16, 17, 75, 76, 77, 37, 38, 39, 40, 41, 42, 43, 117, 118, 119, 120, 22, 121, 104, 105, 106, 27, 122, 123, 124, 125, 126, 82, 83, 84, 85, 86, 87, 88, 89, 90, 91, 92, 93, 94, 64, 95, 66, 96, 67, 97, 98, 99, 100, 101, 102, 103, 107, 108, 109, 110, 111, 112, 48, 49, 50, 51, 52, 32, 53, 54, 55, 56, 57, 58, 59, 60, 61, 62, 63, 65, 68, 131, 132, 133, 134, 135, 136, 137, 138, 139, 140, 141, 142, 143, 144, 145, 146, 147, 148, 149, 152, 153, 154, 155, 156, 150, 151] (by decide +kernel) (by decide +kernel)) (goodIn_sub (fun _ h => List.mem_cons_of_mem _ (List.mem_append_left _ (List.mem_append_left _ (List.mem_append_right _ h)))) (by decide +kernel))) (goodIn_sub (fun _ h => List.mem_cons_of_mem _ (List.mem_append_left _ (List.mem_append_right _ h))) (by decide +kernel))) (goodIn_sub (fun _ h => List.mem_cons_of_mem _ (List.mem_append_right _ h)) (by decide +kernel))
set_option maxRecDepth 20000 in
theorem gL_does_X4_decide : GoodIn wsL_does (wsV RL 70 RX4 yX4_decide wsX4_decide) := goodIn_app (goodIn_of _ (by decide +kernel)) ggL_does_X4_decide
set_option maxRecDepth 20000 in
theorem ggL_does_X4_outstanding : GoodIn wsL_does wsX4_outstanding := goodIn_r _ [130, 122, 123, 124, 4, 125, 27, 126, 82, 83, 84, 85, 86, 87, 88, 89, 90, 6, 91, 92, 93, 94, 64, 95, 66, 96, 67, 97, 98, 99, 100, 101, 102, 103, 104, 105, 106, 107, 108, 109, 110, 111, 112, 131, 132, 133, 134, 135, 136, 137, 138, 139, 140, 141, 142, 143, 144, 152, 153, 154, 155, 156, 145, 146, 147, 148, 149] (by decide +kernel) (by decide +kernel)
set_option maxRecDepth 20000 in
theorem gL_does_X4_outstanding : GoodIn wsL_does (wsV RL 73 RX4 yX4_outstanding wsX4_outstanding) := goodIn_app (goodIn_of _ (by decide +kernel)) ggL_does_X4_outstanding
theorem dL_does_0 : decode cL_does 0 = .ok (.aload_n 0, 1) := by decide +kernel
theorem dL_does_1 : decode cL_does 1 = .ok (.invokevirtual 43, 3) := by decide +kernel
theorem dL_does_4 : decode cL_does 4 = .ok (.istore 4, 2) := by decide +kernel
theorem dL_does_6 : decode cL_does 6 = .ok (.iload 4, 2) := by decide +kernel
theorem dL_does_8 : decode cL_does 8 = .ok (.ifCond .ne 7, 3) := by decide +kernel
theorem dL_does_11 : decode cL_does 11 = .ok (.iconst (-1), 1) := by decide +kernel
theorem dL_does_12 : decode cL_does 12 = .ok (.goto 7, 3) := by decide +kernel
theorem dL_does_15 : decode cL_does 15 = .ok (.iload_n 2, 1) := by decide +kernel
theorem dL_does_16 : decode cL_does 16 = .ok (.iload 4, 2) := by decide +kernel
theorem dL_does_18 : decode cL_does 18 = .ok (.irem, 1) := by decide +kernel
theorem dL_does_19 : decode cL_does 19 = .ok (.istore 5, 2) := by decide +kernel
theorem dL_does_21 : decode cL_does 21 = .ok (.iload 5, 2) := by decide +kernel
theorem dL_does_23 : decode cL_does 23 = .ok (.ifCond .lt 17, 3) := by decide +kernel
theorem dL_does_26 : decode cL_does 26 = .ok (.aload_n 0, 1) := by decide +kernel
theorem dL_does_27 : decode cL_does 27 = .ok (.iload 5, 2) := by decide +kernel
theorem dL_does_29 : decode cL_does 29 = .ok (.invokevirtual 47, 3) := by decide +kernel
theorem dL_does_32 : decode cL_does 32 = .ok (.iconst (-1), 1) := by decide +kernel
theorem dL_does_33 : decode cL_does 33 = .ok (.if_icmp .ne 7, 3) := by decide +kernel
theorem dL_does_36 : decode cL_does 36 = .ok (.iconst 1, 1) := by decide +kernel
theorem dL_does_37 : decode cL_does 37 = .ok (.goto 4, 3) := by decide +kernel
theorem dL_does_40 : decode cL_does 40 = .ok (.iconst 0, 1) := by decide +kernel
theorem dL_does_41 : decode cL_does 41 = .ok (.istore 6, 2) := by decide +kernel
theorem dL_does_43 : decode cL_does 43 = .ok (.aload_n 0, 1) := by decide +kernel
theorem dL_does_44 : decode cL_does 44 = .ok (.invokevirtual 51, 3) := by decide +kernel
theorem dL_does_47 : decode cL_does 47 = .ok (.istore 7, 2) := by decide +kernel
theorem dL_does_49 : decode cL_does 49 = .ok (.aload_n 0, 1) := by decide +kernel
theorem dL_does_50 : decode cL_does 50 = .ok (.invokevirtual 54, 3) := by decide +kernel
theorem dL_does_53 : decode cL_does 53 = .ok (.istore 8, 2) := by decide +kernel
theorem dL_does_55 : decode cL_does 55 = .ok (.iload_n 1, 1) := by decide +kernel
theorem dL_does_56 : decode cL_does 56 = .ok (.bipush 8, 2) := by decide +kernel
theorem dL_does_58 : decode cL_does 58 = .ok (.irem, 1) := by decide +kernel
theorem dL_does_59 : decode cL_does 59 = .ok (.tableswitch 196 0 4 #[33, 87, 87, 123, 123], 33) := by decide +kernel
theorem dL_does_92 : decode cL_does 92 = .ok (.aload_n 0, 1) := by decide +kernel
theorem dL_does_93 : decode cL_does 93 = .ok (.invokevirtual 57, 3) := by decide +kernel
theorem dL_does_96 : decode cL_does 96 = .ok (.sipush 3500, 3) := by decide +kernel
theorem dL_does_99 : decode cL_does 99 = .ok (.if_icmp .ge 45, 3) := by decide +kernel
theorem dL_does_102 : decode cL_does 102 = .ok (.aload_n 0, 1) := by decide +kernel
theorem dL_does_103 : decode cL_does 103 = .ok (.iconst 1, 1) := by decide +kernel
theorem dL_does_104 : decode cL_does 104 = .ok (.iload_n 2, 1) := by decide +kernel
theorem dL_does_105 : decode cL_does 105 = .ok (.sipush 200, 3) := by decide +kernel
theorem dL_does_108 : decode cL_does 108 = .ok (.irem, 1) := by decide +kernel
theorem dL_does_109 : decode cL_does 109 = .ok (.iadd, 1) := by decide +kernel
theorem dL_does_110 : decode cL_does 110 = .ok (.invokevirtual 60, 3) := by decide +kernel
theorem dL_does_113 : decode cL_does 113 = .ok (.aload_n 0, 1) := by decide +kernel
theorem dL_does_114 : decode cL_does 114 = .ok (.invokevirtual 57, 3) := by decide +kernel
theorem dL_does_117 : decode cL_does 117 = .ok (.if_icmp .ne 25, 3) := by decide +kernel
theorem dL_does_120 : decode cL_does 120 = .ok (.aload_n 0, 1) := by decide +kernel
theorem dL_does_121 : decode cL_does 121 = .ok (.invokevirtual 54, 3) := by decide +kernel
theorem dL_does_124 : decode cL_does 124 = .ok (.iload 8, 2) := by decide +kernel
theorem dL_does_126 : decode cL_does 126 = .ok (.if_icmp .ne 16, 3) := by decide +kernel
theorem dL_does_129 : decode cL_does 129 = .ok (.aload_n 0, 1) := by decide +kernel
theorem dL_does_130 : decode cL_does 130 = .ok (.invokevirtual 51, 3) := by decide +kernel
theorem dL_does_133 : decode cL_does 133 = .ok (.iload 7, 2) := by decide +kernel
theorem dL_does_135 : decode cL_does 135 = .ok (.if_icmp .gt 7, 3) := by decide +kernel
theorem dL_does_138 : decode cL_does 138 = .ok (.iconst 1, 1) := by decide +kernel
theorem dL_does_139 : decode cL_does 139 = .ok (.goto 4, 3) := by decide +kernel
theorem dL_does_142 : decode cL_does 142 = .ok (.iconst 0, 1) := by decide +kernel
theorem dL_does_143 : decode cL_does 143 = .ok (.ireturn, 1) := by decide +kernel
theorem dL_does_144 : decode cL_does 144 = .ok (.iconst 1, 1) := by decide +kernel
theorem dL_does_145 : decode cL_does 145 = .ok (.ireturn, 1) := by decide +kernel
theorem dL_does_146 : decode cL_does 146 = .ok (.iload 6, 2) := by decide +kernel
theorem dL_does_148 : decode cL_does 148 = .ok (.ifCond .eq 32, 3) := by decide +kernel
theorem dL_does_151 : decode cL_does 151 = .ok (.aload_n 0, 1) := by decide +kernel
theorem dL_does_152 : decode cL_does 152 = .ok (.iload 5, 2) := by decide +kernel
theorem dL_does_154 : decode cL_does 154 = .ok (.iconst 0, 1) := by decide +kernel
theorem dL_does_155 : decode cL_does 155 = .ok (.invokevirtual 63, 3) := by decide +kernel
theorem dL_does_158 : decode cL_does 158 = .ok (.iconst (-1), 1) := by decide +kernel
theorem dL_does_159 : decode cL_does 159 = .ok (.if_icmp .lt 17, 3) := by decide +kernel
theorem dL_does_162 : decode cL_does 162 = .ok (.aload_n 0, 1) := by decide +kernel
theorem dL_does_163 : decode cL_does 163 = .ok (.iload 5, 2) := by decide +kernel
theorem dL_does_165 : decode cL_does 165 = .ok (.iconst 0, 1) := by decide +kernel
theorem dL_does_166 : decode cL_does 166 = .ok (.invokevirtual 63, 3) := by decide +kernel
theorem dL_does_169 : decode cL_does 169 = .ok (.ifCond .ne 7, 3) := by decide +kernel
theorem dL_does_172 : decode cL_does 172 = .ok (.iconst 1, 1) := by decide +kernel
theorem dL_does_173 : decode cL_does 173 = .ok (.goto 8, 3) := by decide +kernel
theorem dL_does_176 : decode cL_does 176 = .ok (.iconst 0, 1) := by decide +kernel
theorem dL_does_177 : decode cL_does 177 = .ok (.goto 4, 3) := by decide +kernel
theorem dL_does_180 : decode cL_does 180 = .ok (.iconst 1, 1) := by decide +kernel
theorem dL_does_181 : decode cL_does 181 = .ok (.ireturn, 1) := by decide +kernel
theorem dL_does_182 : decode cL_does 182 = .ok (.iload 6, 2) := by decide +kernel
theorem dL_does_184 : decode cL_does 184 = .ok (.ifCond .eq 69, 3) := by decide +kernel
theorem dL_does_187 : decode cL_does 187 = .ok (.aload_n 0, 1) := by decide +kernel
theorem dL_does_188 : decode cL_does 188 = .ok (.invokevirtual 67, 3) := by decide +kernel
theorem dL_does_191 : decode cL_does 191 = .ok (.istore 9, 2) := by decide +kernel
theorem dL_does_193 : decode cL_does 193 = .ok (.aload_n 0, 1) := by decide +kernel
theorem dL_does_194 : decode cL_does 194 = .ok (.iload 5, 2) := by decide +kernel
theorem dL_does_196 : decode cL_does 196 = .ok (.iload_n 3, 1) := by decide +kernel
theorem dL_does_197 : decode cL_does 197 = .ok (.invokevirtual 70, 3) := by decide +kernel
theorem dL_does_200 : decode cL_does 200 = .ok (.istore 10, 2) := by decide +kernel
theorem dL_does_202 : decode cL_does 202 = .ok (.aload_n 0, 1) := by decide +kernel
theorem dL_does_203 : decode cL_does 203 = .ok (.iload 5, 2) := by decide +kernel
theorem dL_does_205 : decode cL_does 205 = .ok (.invokevirtual 47, 3) := by decide +kernel
theorem dL_does_208 : decode cL_does 208 = .ok (.iload_n 3, 1) := by decide +kernel
theorem dL_does_209 : decode cL_does 209 = .ok (.if_icmp .ne 42, 3) := by decide +kernel
theorem dL_does_212 : decode cL_does 212 = .ok (.iload 10, 2) := by decide +kernel
theorem dL_does_214 : decode cL_does 214 = .ok (.aload_n 0, 1) := by decide +kernel
theorem dL_does_215 : decode cL_does 215 = .ok (.invokevirtual 54, 3) := by decide +kernel
theorem dL_does_218 : decode cL_does 218 = .ok (.iload 8, 2) := by decide +kernel
theorem dL_does_220 : decode cL_does 220 = .ok (.isub, 1) := by decide +kernel
theorem dL_does_221 : decode cL_does 221 = .ok (.if_icmp .ne 30, 3) := by decide +kernel
theorem dL_does_224 : decode cL_does 224 = .ok (.aload_n 0, 1) := by decide +kernel
theorem dL_does_225 : decode cL_does 225 = .ok (.invokevirtual 67, 3) := by decide +kernel
theorem dL_does_228 : decode cL_does 228 = .ok (.iload 9, 2) := by decide +kernel
theorem dL_does_230 : decode cL_does 230 = .ok (.if_icmp .lt 21, 3) := by decide +kernel
theorem dL_does_233 : decode cL_does 233 = .ok (.aload_n 0, 1) := by decide +kernel
theorem dL_does_234 : decode cL_does 234 = .ok (.invokevirtual 73, 3) := by decide +kernel
theorem dL_does_237 : decode cL_does 237 = .ok (.ifCond .eq 10, 3) := by decide +kernel
theorem dL_does_240 : decode cL_does 240 = .ok (.aload_n 0, 1) := by decide +kernel
theorem dL_does_241 : decode cL_does 241 = .ok (.invokevirtual 51, 3) := by decide +kernel
theorem dL_does_244 : decode cL_does 244 = .ok (.ifCond .ne 7, 3) := by decide +kernel
theorem dL_does_247 : decode cL_does 247 = .ok (.iconst 1, 1) := by decide +kernel
theorem dL_does_248 : decode cL_does 248 = .ok (.goto 4, 3) := by decide +kernel
theorem dL_does_251 : decode cL_does 251 = .ok (.iconst 0, 1) := by decide +kernel
theorem dL_does_252 : decode cL_does 252 = .ok (.ireturn, 1) := by decide +kernel
theorem dL_does_253 : decode cL_does 253 = .ok (.iconst 1, 1) := by decide +kernel
theorem dL_does_254 : decode cL_does 254 = .ok (.ireturn, 1) := by decide +kernel
theorem dL_does_255 : decode cL_does 255 = .ok (.iconst 1, 1) := by decide +kernel
theorem dL_does_256 : decode cL_does 256 = .ok (.ireturn, 1) := by decide +kernel
set_option maxRecDepth 20000 in
theorem ggL_isWhole_X4_paid : GoodIn wsL_isWhole wsX4_paid := goodIn_r _ [5, 6, 88, 89, 90, 91, 92, 93, 94, 95, 96, 97, 98, 99, 100, 101] (by decide +kernel) (by decide +kernel)
set_option maxRecDepth 20000 in
theorem gL_isWhole_X4_paid : GoodIn wsL_isWhole (wsV RL 76 RX4 yX4_paid wsX4_paid) := goodIn_app (goodIn_of _ (by decide +kernel)) ggL_isWhole_X4_paid
set_option maxRecDepth 20000 in
theorem ggL_isWhole_X4_held : GoodIn wsL_isWhole wsX4_held := goodIn_r _ [10, 11, 88, 89, 90, 91, 92, 93, 94, 95, 96, 97, 98, 99, 100, 101] (by decide +kernel) (by decide +kernel)
set_option maxRecDepth 20000 in
theorem gL_isWhole_X4_held : GoodIn wsL_isWhole (wsV RL 51 RX4 yX4_held wsX4_held) := goodIn_app (goodIn_of _ (by decide +kernel)) ggL_isWhole_X4_held
set_option maxRecDepth 20000 in
theorem ggL_isWhole_X4_returned : GoodIn wsL_isWhole wsX4_returned := goodIn_r _ [15, 16, 88, 89, 90, 91, 92, 93, 94, 95, 96, 97, 98, 99, 100, 101] (by decide +kernel) (by decide +kernel)
set_option maxRecDepth 20000 in
theorem gL_isWhole_X4_returned : GoodIn wsL_isWhole (wsV RL 54 RX4 yX4_returned wsX4_returned) := goodIn_app (goodIn_of _ (by decide +kernel)) ggL_isWhole_X4_returned
set_option maxRecDepth 20000 in
theorem ggL_isWhole_X4_setOff : GoodIn wsL_isWhole wsX4_setOff := goodIn_r _ [20, 21, 88, 89, 90, 91, 92, 93, 94, 95, 96, 97, 98, 99, 100, 101] (by decide +kernel) (by decide +kernel)
set_option maxRecDepth 20000 in
theorem gL_isWhole_X4_setOff : GoodIn wsL_isWhole (wsV RL 79 RX4 yX4_setOff wsX4_setOff) := goodIn_app (goodIn_of _ (by decide +kernel)) ggL_isWhole_X4_setOff
set_option maxRecDepth 20000 in
theorem ggL_isWhole_X4_finalPrice : GoodIn wsL_isWhole wsX4_finalPrice := goodIn_r _ [25, 26, 88, 89, 90, 91, 92, 93, 94, 95, 96, 97, 98, 99, 100, 101] (by decide +kernel) (by decide +kernel)
set_option maxRecDepth 20000 in
theorem gL_isWhole_X4_finalPrice : GoodIn wsL_isWhole (wsV RL 82 RX4 yX4_finalPrice wsX4_finalPrice) := goodIn_app (goodIn_of _ (by decide +kernel)) ggL_isWhole_X4_finalPrice
set_option maxRecDepth 20000 in
theorem ggL_isWhole_X4_owed : GoodIn wsL_isWhole wsX4_owed := goodIn_r _ [30, 31, 88, 89, 90, 91, 92, 93, 94, 95, 96, 97, 98, 99, 100, 101] (by decide +kernel) (by decide +kernel)
set_option maxRecDepth 20000 in
theorem gL_isWhole_X4_owed : GoodIn wsL_isWhole (wsV RL 85 RX4 yX4_owed wsX4_owed) := goodIn_app (goodIn_of _ (by decide +kernel)) ggL_isWhole_X4_owed
set_option maxRecDepth 20000 in
theorem ggL_isWhole_X4_outstanding : GoodIn wsL_isWhole wsX4_outstanding := goodIn_r _ [35, 36, 37, 38, 4, 39, 16, 21, 40, 41, 42, 43, 44, 45, 46, 47, 48, 49, 50, 51, 52, 53, 54, 55, 56, 57, 58, 59, 60, 61, 62, 63, 64, 65, 66, 67, 68, 69, 70, 71, 72, 73, 74, 88, 89, 90, 91, 92, 93, 94, 95, 96, 97, 98, 99, 100, 101, 102, 103, 104, 105, 106, 107, 108, 109, 110, 111] (by decide +kernel) (by decide +kernel)
set_option maxRecDepth 20000 in
theorem gL_isWhole_X4_outstanding : GoodIn wsL_isWhole (wsV RL 73 RX4 yX4_outstanding wsX4_outstanding) := goodIn_app (goodIn_of _ (by decide +kernel)) ggL_isWhole_X4_outstanding
set_option maxRecDepth 20000 in
theorem ggL_isWhole_X4_due : GoodIn wsL_isWhole wsX4_due := goodIn_r _ [78, 40, 41, 42, 4, 43, 44, 45, 46, 47, 48, 49, 50, 51, 52, 53, 54, 55, 56, 57, 58, 59, 60, 61, 62, 63, 64, 65, 66, 67, 68, 69, 70, 71, 72, 73, 74, 88, 89, 90, 91, 92, 93, 94, 95, 96, 97, 98, 99, 100, 101, 102, 103, 104, 105, 106, 107, 108, 109, 110, 111] (by decide +kernel) (by decide +kernel)
set_option maxRecDepth 20000 in
theorem gL_isWhole_X4_due : GoodIn wsL_isWhole (wsV RL 67 RX4 yX4_due wsX4_due) := goodIn_app (goodIn_of _ (by decide +kernel)) ggL_isWhole_X4_due
set_option maxRecDepth 20000 in
theorem ggL_isWhole_X4_dueOf : GoodIn wsL_isWhole wsX4_dueOf := goodIn_ca (goodIn_r _ [82, 83, 84, 4, 85, 86, 87, 44, 45, 46, 47, 48, 49, 50, 51, 52, 53, 54, 55, 56, 57, 58, 59, 60, 61, 62, 63, 64, 65, 66, 67, 68, 69, 70, 71, 72, 73, 74, 88, 89, 90, 91, 92, 93, 94, 95, 96, 97, 98, 99, 100, 101, 102, 103, 104, 105, 106, 107, 108, 109, 110, 111] (by decide +kernel) (by decide +kernel)) (goodIn_sub (fun _ h => List.mem_cons_of_mem _ (List.mem_append_right _ h)) (by decide +kernel))
set_option maxRecDepth 20000 in
theorem gL_isWhole_X4_dueOf : GoodIn wsL_isWhole (wsV RL 88 RX4 yX4_dueOf wsX4_dueOf) := goodIn_app (goodIn_of _ (by decide +kernel)) ggL_isWhole_X4_dueOf
theorem dL_isWhole_0 : decode cL_isWhole 0 = .ok (.aload_n 0, 1) := by decide +kernel
theorem dL_isWhole_1 : decode cL_isWhole 1 = .ok (.invokevirtual 76, 3) := by decide +kernel
theorem dL_isWhole_4 : decode cL_isWhole 4 = .ok (.aload_n 0, 1) := by decide +kernel
theorem dL_isWhole_5 : decode cL_isWhole 5 = .ok (.invokevirtual 51, 3) := by decide +kernel
theorem dL_isWhole_8 : decode cL_isWhole 8 = .ok (.iadd, 1) := by decide +kernel
theorem dL_isWhole_9 : decode cL_isWhole 9 = .ok (.aload_n 0, 1) := by decide +kernel
theorem dL_isWhole_10 : decode cL_isWhole 10 = .ok (.invokevirtual 54, 3) := by decide +kernel
theorem dL_isWhole_13 : decode cL_isWhole 13 = .ok (.iadd, 1) := by decide +kernel
theorem dL_isWhole_14 : decode cL_isWhole 14 = .ok (.aload_n 0, 1) := by decide +kernel
theorem dL_isWhole_15 : decode cL_isWhole 15 = .ok (.invokevirtual 79, 3) := by decide +kernel
theorem dL_isWhole_18 : decode cL_isWhole 18 = .ok (.iadd, 1) := by decide +kernel
theorem dL_isWhole_19 : decode cL_isWhole 19 = .ok (.aload_n 0, 1) := by decide +kernel
theorem dL_isWhole_20 : decode cL_isWhole 20 = .ok (.invokevirtual 82, 3) := by decide +kernel
theorem dL_isWhole_23 : decode cL_isWhole 23 = .ok (.aload_n 0, 1) := by decide +kernel
theorem dL_isWhole_24 : decode cL_isWhole 24 = .ok (.invokevirtual 85, 3) := by decide +kernel
theorem dL_isWhole_27 : decode cL_isWhole 27 = .ok (.iadd, 1) := by decide +kernel
theorem dL_isWhole_28 : decode cL_isWhole 28 = .ok (.if_icmp .ne 7, 3) := by decide +kernel
theorem dL_isWhole_31 : decode cL_isWhole 31 = .ok (.iconst 1, 1) := by decide +kernel
theorem dL_isWhole_32 : decode cL_isWhole 32 = .ok (.goto 4, 3) := by decide +kernel
theorem dL_isWhole_35 : decode cL_isWhole 35 = .ok (.iconst 0, 1) := by decide +kernel
theorem dL_isWhole_36 : decode cL_isWhole 36 = .ok (.istore_n 1, 1) := by decide +kernel
theorem dL_isWhole_37 : decode cL_isWhole 37 = .ok (.iload_n 1, 1) := by decide +kernel
theorem dL_isWhole_38 : decode cL_isWhole 38 = .ok (.ifCond .eq 49, 3) := by decide +kernel
theorem dL_isWhole_41 : decode cL_isWhole 41 = .ok (.aload_n 0, 1) := by decide +kernel
theorem dL_isWhole_42 : decode cL_isWhole 42 = .ok (.invokevirtual 73, 3) := by decide +kernel
theorem dL_isWhole_45 : decode cL_isWhole 45 = .ok (.aload_n 0, 1) := by decide +kernel
theorem dL_isWhole_46 : decode cL_isWhole 46 = .ok (.invokevirtual 67, 3) := by decide +kernel
theorem dL_isWhole_49 : decode cL_isWhole 49 = .ok (.aload_n 0, 1) := by decide +kernel
theorem dL_isWhole_50 : decode cL_isWhole 50 = .ok (.invokevirtual 54, 3) := by decide +kernel
theorem dL_isWhole_53 : decode cL_isWhole 53 = .ok (.isub, 1) := by decide +kernel
theorem dL_isWhole_54 : decode cL_isWhole 54 = .ok (.aload_n 0, 1) := by decide +kernel
theorem dL_isWhole_55 : decode cL_isWhole 55 = .ok (.invokevirtual 79, 3) := by decide +kernel
theorem dL_isWhole_58 : decode cL_isWhole 58 = .ok (.isub, 1) := by decide +kernel
theorem dL_isWhole_59 : decode cL_isWhole 59 = .ok (.if_icmp .ne 28, 3) := by decide +kernel
theorem dL_isWhole_62 : decode cL_isWhole 62 = .ok (.aload_n 0, 1) := by decide +kernel
theorem dL_isWhole_63 : decode cL_isWhole 63 = .ok (.invokevirtual 73, 3) := by decide +kernel
theorem dL_isWhole_66 : decode cL_isWhole 66 = .ok (.ifCond .lt 21, 3) := by decide +kernel
theorem dL_isWhole_69 : decode cL_isWhole 69 = .ok (.aload_n 0, 1) := by decide +kernel
theorem dL_isWhole_70 : decode cL_isWhole 70 = .ok (.invokevirtual 51, 3) := by decide +kernel
theorem dL_isWhole_73 : decode cL_isWhole 73 = .ok (.ifCond .lt 14, 3) := by decide +kernel
theorem dL_isWhole_76 : decode cL_isWhole 76 = .ok (.aload_n 0, 1) := by decide +kernel
theorem dL_isWhole_77 : decode cL_isWhole 77 = .ok (.invokevirtual 76, 3) := by decide +kernel
theorem dL_isWhole_80 : decode cL_isWhole 80 = .ok (.ifCond .lt 7, 3) := by decide +kernel
theorem dL_isWhole_83 : decode cL_isWhole 83 = .ok (.iconst 1, 1) := by decide +kernel
theorem dL_isWhole_84 : decode cL_isWhole 84 = .ok (.goto 4, 3) := by decide +kernel
theorem dL_isWhole_87 : decode cL_isWhole 87 = .ok (.iconst 0, 1) := by decide +kernel
theorem dL_isWhole_88 : decode cL_isWhole 88 = .ok (.istore_n 1, 1) := by decide +kernel
theorem dL_isWhole_89 : decode cL_isWhole 89 = .ok (.iload_n 1, 1) := by decide +kernel
theorem dL_isWhole_90 : decode cL_isWhole 90 = .ok (.ifCond .eq 53, 3) := by decide +kernel
theorem dL_isWhole_93 : decode cL_isWhole 93 = .ok (.aload_n 0, 1) := by decide +kernel
theorem dL_isWhole_94 : decode cL_isWhole 94 = .ok (.invokevirtual 67, 3) := by decide +kernel
theorem dL_isWhole_97 : decode cL_isWhole 97 = .ok (.aload_n 0, 1) := by decide +kernel
theorem dL_isWhole_98 : decode cL_isWhole 98 = .ok (.iconst 0, 1) := by decide +kernel
theorem dL_isWhole_99 : decode cL_isWhole 99 = .ok (.invokevirtual 88, 3) := by decide +kernel
theorem dL_isWhole_102 : decode cL_isWhole 102 = .ok (.aload_n 0, 1) := by decide +kernel
theorem dL_isWhole_103 : decode cL_isWhole 103 = .ok (.iconst 1, 1) := by decide +kernel
theorem dL_isWhole_104 : decode cL_isWhole 104 = .ok (.invokevirtual 88, 3) := by decide +kernel
theorem dL_isWhole_107 : decode cL_isWhole 107 = .ok (.iadd, 1) := by decide +kernel
theorem dL_isWhole_108 : decode cL_isWhole 108 = .ok (.aload_n 0, 1) := by decide +kernel
theorem dL_isWhole_109 : decode cL_isWhole 109 = .ok (.iconst 2, 1) := by decide +kernel
theorem dL_isWhole_110 : decode cL_isWhole 110 = .ok (.invokevirtual 88, 3) := by decide +kernel
theorem dL_isWhole_113 : decode cL_isWhole 113 = .ok (.iadd, 1) := by decide +kernel
theorem dL_isWhole_114 : decode cL_isWhole 114 = .ok (.if_icmp .ne 29, 3) := by decide +kernel
theorem dL_isWhole_117 : decode cL_isWhole 117 = .ok (.aload_n 0, 1) := by decide +kernel
theorem dL_isWhole_118 : decode cL_isWhole 118 = .ok (.invokevirtual 79, 3) := by decide +kernel
theorem dL_isWhole_121 : decode cL_isWhole 121 = .ok (.aload_n 0, 1) := by decide +kernel
theorem dL_isWhole_122 : decode cL_isWhole 122 = .ok (.invokevirtual 85, 3) := by decide +kernel
theorem dL_isWhole_125 : decode cL_isWhole 125 = .ok (.if_icmp .gt 18, 3) := by decide +kernel
theorem dL_isWhole_128 : decode cL_isWhole 128 = .ok (.aload_n 0, 1) := by decide +kernel
theorem dL_isWhole_129 : decode cL_isWhole 129 = .ok (.invokevirtual 54, 3) := by decide +kernel
theorem dL_isWhole_132 : decode cL_isWhole 132 = .ok (.aload_n 0, 1) := by decide +kernel
theorem dL_isWhole_133 : decode cL_isWhole 133 = .ok (.invokevirtual 82, 3) := by decide +kernel
theorem dL_isWhole_136 : decode cL_isWhole 136 = .ok (.if_icmp .gt 7, 3) := by decide +kernel
theorem dL_isWhole_139 : decode cL_isWhole 139 = .ok (.iconst 1, 1) := by decide +kernel
theorem dL_isWhole_140 : decode cL_isWhole 140 = .ok (.goto 4, 3) := by decide +kernel
theorem dL_isWhole_143 : decode cL_isWhole 143 = .ok (.iconst 0, 1) := by decide +kernel
theorem dL_isWhole_144 : decode cL_isWhole 144 = .ok (.ireturn, 1) := by decide +kernel
set_option maxRecDepth 20000 in
theorem ggL_law_X4_init : GoodIn wsL_law wsX4_init := goodIn_r _ [11, 12, 13, 14, 15, 16, 17, 18, 19, 20, 21, 22, 23, 24, 25, 26, 27, 28, 29, 30, 31, 32, 33, 34, 35, 36, 6, 37, 38, 39, 40, 41, 42, 43, 44, 45, 46, 47, 48, 49, 50, 51, 52, 53, 54, 55, 56, 57, 58, 59, 60, 61, 62, 63, 328, 329, 314, 315, 316, 317, 318, 319, 320, 321, 322, 323, 324, 325, 326, 327, 330, 331, 332, 333, 334, 335, 336, 337, 338, 339, 340, 341, 342, 343, 344, 345, 346, 347] (by decide +kernel) (by decide +kernel)
set_option maxRecDepth 20000 in
theorem gL_law_X4_init : GoodIn wsL_law (wsX4_init) := ggL_law_X4_init
set_option maxRecDepth 20000 in
theorem ggL_law_X4_day : GoodIn wsL_law wsX4_day := goodIn_r _ [67, 31, 314, 315, 316, 317, 318, 319, 320, 321, 322, 323, 324, 325, 326, 327] (by decide +kernel) (by decide +kernel)
set_option maxRecDepth 20000 in
theorem gL_law_X4_day : GoodIn wsL_law (wsV RL 57 RX4 yX4_day wsX4_day) := goodIn_app (goodIn_of _ (by decide +kernel)) ggL_law_X4_day
set_option maxRecDepth 20000 in
theorem ggL_law_X4_finalPrice : GoodIn wsL_law wsX4_finalPrice := goodIn_r _ [71, 32, 314, 315, 316, 317, 318, 319, 320, 321, 322, 323, 324, 325, 326, 327] (by decide +kernel) (by decide +kernel)
set_option maxRecDepth 20000 in
theorem gL_law_X4_finalPrice : GoodIn wsL_law (wsV RL 82 RX4 yX4_finalPrice wsX4_finalPrice) := goodIn_app (goodIn_of _ (by decide +kernel)) ggL_law_X4_finalPrice
set_option maxRecDepth 20000 in
theorem ggL_law_L_terms : GoodIn wsL_law wsL_terms := goodIn_ca (goodIn_ca (goodIn_ca (goodIn_r _ [75, 76, 77, 7, 78, 5, 79, 80, 3, 81, 82, 74, 83, 84, 85, 86, 87, 88, 2, 89, 90, 91, 92, 93, 94, 95, 96, 97, 98, 99, 100, 101, 102, 103, 104, 105, 31, 106, 107, 108, 109, 18, 110, 111, 112, 113, 114, 115, 116, 117, 118, 119, 120, 30, 121, 122, 123, 124, 125, 126, 127, 22, 128, 129, 130, 131, 132, 133, 134, 135, 136, 137, 314, 315, 316, 317, 318, 319, 320, 321, 322, 323, 324, 325, 326, 327, 328, 329, 340, 341, 342, 343, 344, 345, 346, 347, 330, 331, 332, 333, 334] (by decide +kernel) (by decide +kernel)) (goodIn_sub (fun _ h => List.mem_append_left _ (List.mem_append_left _ (List.mem_append_right _ h))) (by decide +kernel))) (goodIn_sub (fun _ h => List.mem_append_left _ (List.mem_append_right _ h)) (by decide +kernel))) (goodIn_sub (fun _ h => List.mem_append_right _ h) (by decide +kernel))
set_option maxRecDepth 20000 in
theorem gL_law_L_terms : GoodIn wsL_law (va_wsS RL 92 yL_terms wsL_terms) := goodIn_app (goodIn_of _ (by decide +kernel)) ggL_law_L_terms
set_option maxRecDepth 20000 in
theorem ggL_law_L_told : GoodIn wsL_law wsL_told := goodIn_r _ [83, 84, 85] (by decide +kernel) (by decide +kernel)
set_option maxRecDepth 20000 in
theorem gL_law_L_told : GoodIn wsL_law (va_wsS RL 9 yL_told wsL_told) := goodIn_app (goodIn_of _ (by decide +kernel)) ggL_law_L_told
set_option maxRecDepth 20000 in
theorem ggL_law_X4_close : GoodIn wsL_law wsX4_close := goodIn_ca (goodIn_ca (goodIn_r _ [141, 90, 91, 31, 92, 93, 142, 143, 144, 145, 32, 18, 146, 147, 148, 149, 150, 95, 96, 2, 97, 98, 99, 100, 101, 102, 103, 104, 105, 151, 152, 153, 154, 94, 155, 156, 157, 17, 158, 37, 314, 315, 316, 317, 318, 319, 320, 321, 322, 323, 324, 325, 326, 327, 328, 329] (by decide +kernel) (by decide +kernel)) (goodIn_sub (fun _ h => List.mem_append_left _ (List.mem_append_left _ (List.mem_append_right _ h))) (by decide +kernel))) (goodIn_sub (fun _ h => List.mem_append_left _ (List.mem_append_right _ h)) (by decide +kernel))
set_option maxRecDepth 20000 in
theorem gL_law_X4_close : GoodIn wsL_law (wsV RL 97 RX4 yX4_close wsX4_close) := goodIn_app (goodIn_of _ (by decide +kernel)) ggL_law_X4_close
set_option maxRecDepth 20000 in
theorem ggL_law_L_isWhole : GoodIn wsL_law wsL_isWhole := goodIn_ca (goodIn_r _ [161, 162, 163, 164, 2, 165, 150, 166, 167, 168, 169, 149, 170, 171, 172, 173, 174, 175, 176, 177, 178, 179, 68, 69, 70, 71, 32, 180, 181, 182, 183, 184, 185, 186, 187, 188, 189, 190, 191, 192, 193, 194, 195, 196, 197, 198, 199, 200, 22, 26, 128, 201, 202, 203, 25, 204, 205, 53, 56, 206, 207, 208, 21, 209, 47, 210, 147, 144, 148, 211, 212, 213, 214, 44, 46, 215, 216, 217, 218, 219, 220, 221, 222, 112, 113, 114, 115, 116, 314, 315, 316, 317, 318, 319, 320, 321, 322, 323, 324, 325, 326, 327, 330, 331, 332, 333, 334, 335, 336, 337, 338, 339] (by decide +kernel) (by decide +kernel)) (goodIn_sub (fun _ h => List.mem_append_right _ h) (by decide +kernel))
set_option maxRecDepth 20000 in
theorem gL_law_L_isWhole : GoodIn wsL_law (va_wsS RL 101 yL_isWhole wsL_isWhole) := goodIn_app (goodIn_of _ (by decide +kernel)) ggL_law_L_isWhole
set_option maxRecDepth 20000 in
theorem ggL_law_X4_claims : GoodIn wsL_law wsX4_claims := goodIn_r _ [226, 26, 227, 314, 315, 316, 317, 318, 319, 320, 321, 322, 323, 324, 325, 326, 327, 335, 336, 337, 338, 339] (by decide +kernel) (by decide +kernel)
set_option maxRecDepth 20000 in
theorem gL_law_X4_claims : GoodIn wsL_law (wsV RL 43 RX4 yX4_claims wsX4_claims) := goodIn_app (goodIn_of _ (by decide +kernel)) ggL_law_X4_claims
set_option maxRecDepth 20000 in
theorem ggL_law_X4_claim : GoodIn wsL_law wsX4_claim := goodIn_ca (goodIn_ca (goodIn_ca (goodIn_r _ [231, 104, 105, 90, 31, 22, 132, 26, 227, 232, 233, 234, 235, 112, 113, 2, 114, 115, 116, 95, 96, 97, 98, 99, 236, 237, 238, 239, 314, 315, 316, 317, 318, 319, 320, 321, 322, 323, 324, 325, 326, 327, 330, 331, 332, 333, 334, 335, 336, 337, 338, 339] (by decide +kernel) (by decide +kernel)) (goodIn_sub (fun _ h => List.mem_append_left _ (List.mem_append_right _ h)) (by decide +kernel))) (goodIn_sub (fun _ h => List.mem_append_right _ h) (by decide +kernel))) (goodIn_sub (fun _ h => List.mem_append_left _ (List.mem_append_left _ (List.mem_append_right _ h))) (by decide +kernel))
set_option maxRecDepth 20000 in
theorem gL_law_X4_claim : GoodIn wsL_law (wsV RL 105 RX4 yX4_claim wsX4_claim) := goodIn_app (goodIn_of _ (by decide +kernel)) ggL_law_X4_claim
set_option maxRecDepth 20000 in
theorem ggL_law_X4_settledAt : GoodIn wsL_law wsX4_settledAt := goodIn_ca (goodIn_r _ [243, 26, 227, 235, 112, 113, 2, 114, 115, 116, 314, 315, 316, 317, 318, 319, 320, 321, 322, 323, 324, 325, 326, 327, 335, 336, 337, 338, 339] (by decide +kernel) (by decide +kernel)) (goodIn_sub (fun _ h => List.mem_append_right _ h) (by decide +kernel))
set_option maxRecDepth 20000 in
theorem gL_law_X4_settledAt : GoodIn wsL_law (wsV RL 47 RX4 yX4_settledAt wsX4_settledAt) := goodIn_app (goodIn_of _ (by decide +kernel)) ggL_law_X4_settledAt
set_option maxRecDepth 20000 in
theorem ggL_law_X4_owed : GoodIn wsL_law wsX4_owed := goodIn_r _ [183, 184, 314, 315, 316, 317, 318, 319, 320, 321, 322, 323, 324, 325, 326, 327] (by decide +kernel) (by decide +kernel)
set_option maxRecDepth 20000 in
theorem gL_law_X4_owed : GoodIn wsL_law (wsV RL 85 RX4 yX4_owed wsX4_owed) := goodIn_app (goodIn_of _ (by decide +kernel)) ggL_law_X4_owed
set_option maxRecDepth 20000 in
theorem ggL_law_X4_report : GoodIn wsL_law wsX4_report := goodIn_ca (goodIn_ca (goodIn_r _ [247, 104, 105, 91, 90, 30, 248, 249, 95, 96, 2, 97, 98, 99, 236, 237, 238, 239, 31, 250, 251, 252, 29, 253, 254, 255, 256, 61, 257, 258, 259, 260, 261, 63, 62, 262, 263, 264, 265, 146, 147, 144, 148, 184, 179, 150, 189, 190, 191, 192, 174, 193, 194, 195, 196, 197, 198, 199, 200, 22, 26, 128, 201, 202, 203, 25, 204, 205, 53, 56, 206, 207, 208, 21, 209, 47, 210, 211, 212, 213, 214, 44, 46, 314, 315, 316, 317, 318, 319, 320, 321, 322, 323, 324, 325, 326, 327, 340, 341, 342, 343, 344, 345, 346, 347, 330, 331, 332, 333, 334, 335, 336, 337, 338, 339] (by decide +kernel) (by decide +kernel)) (goodIn_sub (fun _ h => List.mem_append_left _ (List.mem_append_right _ h)) (by decide +kernel))) (goodIn_sub (fun _ h => List.mem_append_left _ (List.mem_append_left _ (List.mem_append_right _ h))) (by decide +kernel))
set_option maxRecDepth 20000 in
theorem gL_law_X4_report : GoodIn wsL_law (wsV RL 109 RX4 yX4_report wsX4_report) := goodIn_app (goodIn_of _ (by decide +kernel)) ggL_law_X4_report
set_option maxRecDepth 20000 in
theorem ggL_law_X4_speedUp : GoodIn wsL_law wsX4_speedUp := goodIn_ca (goodIn_r _ [269, 104, 105, 30, 248, 236, 237, 238, 2, 239, 31, 270, 271, 272, 29, 273, 274, 254, 258, 259, 260, 261, 63, 62, 262, 263, 264, 265, 146, 147, 144, 148, 184, 179, 150, 189, 190, 191, 192, 174, 193, 194, 195, 196, 197, 198, 199, 200, 22, 26, 128, 201, 202, 203, 25, 204, 205, 53, 56, 206, 207, 208, 21, 209, 47, 210, 211, 212, 213, 214, 44, 46, 314, 315, 316, 317, 318, 319, 320, 321, 322, 323, 324, 325, 326, 327, 340, 341, 342, 343, 344, 345, 346, 347, 330, 331, 332, 333, 334, 335, 336, 337, 338, 339] (by decide +kernel) (by decide +kernel)) (goodIn_sub (fun _ h => List.mem_append_left _ (List.mem_append_right _ h)) (by decide +kernel))
set_option maxRecDepth 20000 in
theorem gL_law_X4_speedUp : GoodIn wsL_law (wsV RL 112 RX4 yX4_speedUp wsX4_speedUp) := goodIn_app (goodIn_of _ (by decide +kernel)) ggL_law_X4_speedUp
set_option maxRecDepth 20000 in
theorem ggL_law_X4_isMet : GoodIn wsL_law wsX4_isMet := goodIn_ca (goodIn_r _ [278, 30, 279, 112, 113, 2, 114, 115, 116, 314, 315, 316, 317, 318, 319, 320, 321, 322, 323, 324, 325, 326, 327, 340, 341, 342, 343, 344, 345, 346, 347] (by decide +kernel) (by decide +kernel)) (goodIn_sub (fun _ h => List.mem_append_right _ h) (by decide +kernel))
set_option maxRecDepth 20000 in
theorem gL_law_X4_isMet : GoodIn wsL_law (wsV RL 115 RX4 yX4_isMet wsX4_isMet) := goodIn_app (goodIn_of _ (by decide +kernel)) ggL_law_X4_isMet
set_option maxRecDepth 20000 in
theorem ggL_law_L_does : GoodIn wsL_law wsL_does := goodIn_ca (goodIn_ca (goodIn_ca (goodIn_r _ [282, 223, 224, 225, 2, 226, 26, 227, 240, 241, 242, 243, 235, 112, 113, 114, 115, 116, 166, 167, 168, 169, 149, 170, 171, 172, 173, 174, 64, 65, 66, 67, 31, 283, 284, 285, 286, 104, 105, 95, 96, 97, 98, 99, 236, 237, 238, 239, 287, 288, 289, 290, 18, 150, 291, 292, 293, 17, 294, 38, 37, 295, 296, 297, 25, 298, 205, 56, 54, 299, 300, 301, 302, 233, 234, 303, 304, 305, 215, 216, 217, 218, 193, 194, 195, 196, 197, 198, 199, 200, 22, 128, 201, 202, 203, 204, 53, 206, 207, 208, 21, 209, 47, 210, 147, 144, 148, 211, 212, 213, 214, 44, 46, 306, 307, 308, 309, 310, 311, 312, 313, 146, 189, 190, 191, 192, 179, 185, 186, 187, 188, 314, 315, 316, 317, 318, 319, 320, 321, 322, 323, 324, 325, 326, 327, 335, 336, 337, 338, 339, 328, 329, 330, 331, 332, 333, 334] (by decide +kernel) (by decide +kernel)) (goodIn_sub (fun _ h => List.mem_append_right _ h) (by decide +kernel))) (goodIn_sub (fun _ h => List.mem_append_left _ (List.mem_append_right _ h)) (by decide +kernel))) (goodIn_sub (fun _ h => List.mem_append_left _ (List.mem_append_left _ (List.mem_append_right _ h))) (by decide +kernel))
set_option maxRecDepth 20000 in
theorem gL_law_L_does : GoodIn wsL_law (va_wsS RL 119 yL_does wsL_does) := goodIn_app (goodIn_of _ (by decide +kernel)) ggL_law_L_does
theorem dL_law_0 : decode cL_law 0 = .ok (.new 20, 3) := by decide +kernel
theorem dL_law_3 : decode cL_law 3 = .ok (.dup, 1) := by decide +kernel
theorem dL_law_4 : decode cL_law 4 = .ok (.invokespecial 91, 3) := by decide +kernel
theorem dL_law_7 : decode cL_law 7 = .ok (.astore_n 1, 1) := by decide +kernel
theorem dL_law_8 : decode cL_law 8 = .ok (.aload_n 1, 1) := by decide +kernel
theorem dL_law_9 : decode cL_law 9 = .ok (.invokevirtual 57, 3) := by decide +kernel
theorem dL_law_12 : decode cL_law 12 = .ok (.iconst (-1), 1) := by decide +kernel
theorem dL_law_13 : decode cL_law 13 = .ok (.if_icmp .ne 15, 3) := by decide +kernel
theorem dL_law_16 : decode cL_law 16 = .ok (.aload_n 1, 1) := by decide +kernel
theorem dL_law_17 : decode cL_law 17 = .ok (.invokevirtual 82, 3) := by decide +kernel
theorem dL_law_20 : decode cL_law 20 = .ok (.iconst (-1), 1) := by decide +kernel
theorem dL_law_21 : decode cL_law 21 = .ok (.if_icmp .ne 7, 3) := by decide +kernel
theorem dL_law_24 : decode cL_law 24 = .ok (.iconst 1, 1) := by decide +kernel
theorem dL_law_25 : decode cL_law 25 = .ok (.goto 4, 3) := by decide +kernel
theorem dL_law_28 : decode cL_law 28 = .ok (.iconst 0, 1) := by decide +kernel
theorem dL_law_29 : decode cL_law 29 = .ok (.istore_n 2, 1) := by decide +kernel
theorem dL_law_30 : decode cL_law 30 = .ok (.aload_n 1, 1) := by decide +kernel
theorem dL_law_31 : decode cL_law 31 = .ok (.aload_n 0, 1) := by decide +kernel
theorem dL_law_32 : decode cL_law 32 = .ok (.invokestatic 92, 3) := by decide +kernel
theorem dL_law_35 : decode cL_law 35 = .ok (.aload_n 1, 1) := by decide +kernel
theorem dL_law_36 : decode cL_law 36 = .ok (.aload_n 0, 1) := by decide +kernel
theorem dL_law_37 : decode cL_law 37 = .ok (.bipush 15, 2) := by decide +kernel
theorem dL_law_39 : decode cL_law 39 = .ok (.invokestatic 9, 3) := by decide +kernel
theorem dL_law_42 : decode cL_law 42 = .ok (.ldc 34, 2) := by decide +kernel
theorem dL_law_44 : decode cL_law 44 = .ok (.irem, 1) := by decide +kernel
theorem dL_law_45 : decode cL_law 45 = .ok (.aload_n 0, 1) := by decide +kernel
theorem dL_law_46 : decode cL_law 46 = .ok (.bipush 16, 2) := by decide +kernel
theorem dL_law_48 : decode cL_law 48 = .ok (.invokestatic 9, 3) := by decide +kernel
theorem dL_law_51 : decode cL_law 51 = .ok (.ldc 34, 2) := by decide +kernel
theorem dL_law_53 : decode cL_law 53 = .ok (.irem, 1) := by decide +kernel
theorem dL_law_54 : decode cL_law 54 = .ok (.aload_n 0, 1) := by decide +kernel
theorem dL_law_55 : decode cL_law 55 = .ok (.bipush 17, 2) := by decide +kernel
theorem dL_law_57 : decode cL_law 57 = .ok (.invokestatic 9, 3) := by decide +kernel
theorem dL_law_60 : decode cL_law 60 = .ok (.ldc 96, 2) := by decide +kernel
theorem dL_law_62 : decode cL_law 62 = .ok (.irem, 1) := by decide +kernel
theorem dL_law_63 : decode cL_law 63 = .ok (.ldc 25, 2) := by decide +kernel
theorem dL_law_65 : decode cL_law 65 = .ok (.isub, 1) := by decide +kernel
theorem dL_law_66 : decode cL_law 66 = .ok (.invokevirtual 97, 3) := by decide +kernel
theorem dL_law_69 : decode cL_law 69 = .ok (.istore_n 3, 1) := by decide +kernel
theorem dL_law_70 : decode cL_law 70 = .ok (.iload_n 2, 1) := by decide +kernel
theorem dL_law_71 : decode cL_law 71 = .ok (.ifCond .eq 29, 3) := by decide +kernel
theorem dL_law_74 : decode cL_law 74 = .ok (.iload_n 3, 1) := by decide +kernel
theorem dL_law_75 : decode cL_law 75 = .ok (.aload_n 1, 1) := by decide +kernel
theorem dL_law_76 : decode cL_law 76 = .ok (.invokevirtual 82, 3) := by decide +kernel
theorem dL_law_79 : decode cL_law 79 = .ok (.if_icmp .ne 21, 3) := by decide +kernel
theorem dL_law_82 : decode cL_law 82 = .ok (.aload_n 1, 1) := by decide +kernel
theorem dL_law_83 : decode cL_law 83 = .ok (.invokevirtual 57, 3) := by decide +kernel
theorem dL_law_86 : decode cL_law 86 = .ok (.ifCond .ne 14, 3) := by decide +kernel
theorem dL_law_89 : decode cL_law 89 = .ok (.aload_n 1, 1) := by decide +kernel
theorem dL_law_90 : decode cL_law 90 = .ok (.invokestatic 101, 3) := by decide +kernel
theorem dL_law_93 : decode cL_law 93 = .ok (.ifCond .eq 7, 3) := by decide +kernel
theorem dL_law_96 : decode cL_law 96 = .ok (.iconst 1, 1) := by decide +kernel
theorem dL_law_97 : decode cL_law 97 = .ok (.goto 4, 3) := by decide +kernel
theorem dL_law_100 : decode cL_law 100 = .ok (.iconst 0, 1) := by decide +kernel
theorem dL_law_101 : decode cL_law 101 = .ok (.istore_n 2, 1) := by decide +kernel
theorem dL_law_102 : decode cL_law 102 = .ok (.iconst 0, 1) := by decide +kernel
theorem dL_law_103 : decode cL_law 103 = .ok (.istore 4, 2) := by decide +kernel
theorem dL_law_105 : decode cL_law 105 = .ok (.iconst 0, 1) := by decide +kernel
theorem dL_law_106 : decode cL_law 106 = .ok (.istore 5, 2) := by decide +kernel
theorem dL_law_108 : decode cL_law 108 = .ok (.iconst 3, 1) := by decide +kernel
theorem dL_law_109 : decode cL_law 109 = .ok (.newarray .int, 2) := by decide +kernel
theorem dL_law_111 : decode cL_law 111 = .ok (.astore 6, 2) := by decide +kernel
theorem dL_law_113 : decode cL_law 113 = .ok (.bipush 20, 2) := by decide +kernel
theorem dL_law_115 : decode cL_law 115 = .ok (.newarray .int, 2) := by decide +kernel
theorem dL_law_117 : decode cL_law 117 = .ok (.astore 7, 2) := by decide +kernel
theorem dL_law_119 : decode cL_law 119 = .ok (.iconst 0, 1) := by decide +kernel
theorem dL_law_120 : decode cL_law 120 = .ok (.istore 8, 2) := by decide +kernel
theorem dL_law_122 : decode cL_law 122 = .ok (.iload 8, 2) := by decide +kernel
theorem dL_law_124 : decode cL_law 124 = .ok (.iconst 3, 1) := by decide +kernel
theorem dL_law_125 : decode cL_law 125 = .ok (.if_icmp .ge 30, 3) := by decide +kernel
theorem dL_law_128 : decode cL_law 128 = .ok (.aload 6, 2) := by decide +kernel
theorem dL_law_130 : decode cL_law 130 = .ok (.iload 8, 2) := by decide +kernel
theorem dL_law_132 : decode cL_law 132 = .ok (.aload_n 0, 1) := by decide +kernel
theorem dL_law_133 : decode cL_law 133 = .ok (.iload 8, 2) := by decide +kernel
theorem dL_law_135 : decode cL_law 135 = .ok (.bipush 11, 2) := by decide +kernel
theorem dL_law_137 : decode cL_law 137 = .ok (.iadd, 1) := by decide +kernel
theorem dL_law_138 : decode cL_law 138 = .ok (.invokestatic 9, 3) := by decide +kernel
theorem dL_law_141 : decode cL_law 141 = .ok (.bipush 77, 2) := by decide +kernel
theorem dL_law_143 : decode cL_law 143 = .ok (.idiv, 1) := by decide +kernel
theorem dL_law_144 : decode cL_law 144 = .ok (.sipush 1500, 3) := by decide +kernel
theorem dL_law_147 : decode cL_law 147 = .ok (.irem, 1) := by decide +kernel
theorem dL_law_148 : decode cL_law 148 = .ok (.iastore, 1) := by decide +kernel
theorem dL_law_149 : decode cL_law 149 = .ok (.iinc 8 1, 3) := by decide +kernel
theorem dL_law_152 : decode cL_law 152 = .ok (.goto (-30), 3) := by decide +kernel
theorem dL_law_155 : decode cL_law 155 = .ok (.bipush 18, 2) := by decide +kernel
theorem dL_law_157 : decode cL_law 157 = .ok (.istore 8, 2) := by decide +kernel
theorem dL_law_159 : decode cL_law 159 = .ok (.iload 8, 2) := by decide +kernel
theorem dL_law_161 : decode cL_law 161 = .ok (.bipush 70, 2) := by decide +kernel
theorem dL_law_163 : decode cL_law 163 = .ok (.if_icmp .ge 341, 3) := by decide +kernel
theorem dL_law_166 : decode cL_law 166 = .ok (.iload_n 2, 1) := by decide +kernel
theorem dL_law_167 : decode cL_law 167 = .ok (.ifCond .eq 337, 3) := by decide +kernel
theorem dL_law_170 : decode cL_law 170 = .ok (.aload_n 0, 1) := by decide +kernel
theorem dL_law_171 : decode cL_law 171 = .ok (.iload 8, 2) := by decide +kernel
theorem dL_law_173 : decode cL_law 173 = .ok (.invokestatic 9, 3) := by decide +kernel
theorem dL_law_176 : decode cL_law 176 = .ok (.istore 9, 2) := by decide +kernel
theorem dL_law_178 : decode cL_law 178 = .ok (.aload_n 0, 1) := by decide +kernel
theorem dL_law_179 : decode cL_law 179 = .ok (.iload 8, 2) := by decide +kernel
theorem dL_law_181 : decode cL_law 181 = .ok (.iconst 3, 1) := by decide +kernel
theorem dL_law_182 : decode cL_law 182 = .ok (.iadd, 1) := by decide +kernel
theorem dL_law_183 : decode cL_law 183 = .ok (.invokestatic 9, 3) := by decide +kernel
theorem dL_law_186 : decode cL_law 186 = .ok (.istore 10, 2) := by decide +kernel
theorem dL_law_188 : decode cL_law 188 = .ok (.iload 10, 2) := by decide +kernel
theorem dL_law_190 : decode cL_law 190 = .ok (.iconst 3, 1) := by decide +kernel
theorem dL_law_191 : decode cL_law 191 = .ok (.irem, 1) := by decide +kernel
theorem dL_law_192 : decode cL_law 192 = .ok (.istore 11, 2) := by decide +kernel
theorem dL_law_194 : decode cL_law 194 = .ok (.iload 9, 2) := by decide +kernel
theorem dL_law_196 : decode cL_law 196 = .ok (.bipush 8, 2) := by decide +kernel
theorem dL_law_198 : decode cL_law 198 = .ok (.irem, 1) := by decide +kernel
theorem dL_law_199 : decode cL_law 199 = .ok (.iconst 5, 1) := by decide +kernel
theorem dL_law_200 : decode cL_law 200 = .ok (.if_icmp .lt 97, 3) := by decide +kernel
theorem dL_law_203 : decode cL_law 203 = .ok (.iload 9, 2) := by decide +kernel
theorem dL_law_205 : decode cL_law 205 = .ok (.bipush 8, 2) := by decide +kernel
theorem dL_law_207 : decode cL_law 207 = .ok (.irem, 1) := by decide +kernel
theorem dL_law_208 : decode cL_law 208 = .ok (.bipush 6, 2) := by decide +kernel
theorem dL_law_210 : decode cL_law 210 = .ok (.if_icmp .gt 87, 3) := by decide +kernel
theorem dL_law_213 : decode cL_law 213 = .ok (.aload_n 1, 1) := by decide +kernel
theorem dL_law_214 : decode cL_law 214 = .ok (.invokevirtual 43, 3) := by decide +kernel
theorem dL_law_217 : decode cL_law 217 = .ok (.bipush 20, 2) := by decide +kernel
theorem dL_law_219 : decode cL_law 219 = .ok (.if_icmp .ge 78, 3) := by decide +kernel
theorem dL_law_222 : decode cL_law 222 = .ok (.aload_n 1, 1) := by decide +kernel
theorem dL_law_223 : decode cL_law 223 = .ok (.invokevirtual 57, 3) := by decide +kernel
theorem dL_law_226 : decode cL_law 226 = .ok (.aload 6, 2) := by decide +kernel
theorem dL_law_228 : decode cL_law 228 = .ok (.iload 11, 2) := by decide +kernel
theorem dL_law_230 : decode cL_law 230 = .ok (.iaload, 1) := by decide +kernel
theorem dL_law_231 : decode cL_law 231 = .ok (.if_icmp .gt 66, 3) := by decide +kernel
theorem dL_law_234 : decode cL_law 234 = .ok (.aload 7, 2) := by decide +kernel
theorem dL_law_236 : decode cL_law 236 = .ok (.aload_n 1, 1) := by decide +kernel
theorem dL_law_237 : decode cL_law 237 = .ok (.invokevirtual 43, 3) := by decide +kernel
theorem dL_law_240 : decode cL_law 240 = .ok (.iconst 1, 1) := by decide +kernel
theorem dL_law_241 : decode cL_law 241 = .ok (.iload 10, 2) := by decide +kernel
theorem dL_law_243 : decode cL_law 243 = .ok (.iconst 3, 1) := by decide +kernel
theorem dL_law_244 : decode cL_law 244 = .ok (.idiv, 1) := by decide +kernel
theorem dL_law_245 : decode cL_law 245 = .ok (.ldc 25, 2) := by decide +kernel
theorem dL_law_247 : decode cL_law 247 = .ok (.irem, 1) := by decide +kernel
theorem dL_law_248 : decode cL_law 248 = .ok (.iadd, 1) := by decide +kernel
theorem dL_law_249 : decode cL_law 249 = .ok (.iastore, 1) := by decide +kernel
theorem dL_law_250 : decode cL_law 250 = .ok (.aload_n 1, 1) := by decide +kernel
theorem dL_law_251 : decode cL_law 251 = .ok (.iload 11, 2) := by decide +kernel
theorem dL_law_253 : decode cL_law 253 = .ok (.iconst 1, 1) := by decide +kernel
theorem dL_law_254 : decode cL_law 254 = .ok (.iload 10, 2) := by decide +kernel
theorem dL_law_256 : decode cL_law 256 = .ok (.iconst 3, 1) := by decide +kernel
theorem dL_law_257 : decode cL_law 257 = .ok (.idiv, 1) := by decide +kernel
theorem dL_law_258 : decode cL_law 258 = .ok (.ldc 25, 2) := by decide +kernel
theorem dL_law_260 : decode cL_law 260 = .ok (.irem, 1) := by decide +kernel
theorem dL_law_261 : decode cL_law 261 = .ok (.iadd, 1) := by decide +kernel
theorem dL_law_262 : decode cL_law 262 = .ok (.invokevirtual 105, 3) := by decide +kernel
theorem dL_law_265 : decode cL_law 265 = .ok (.aload_n 1, 1) := by decide +kernel
theorem dL_law_266 : decode cL_law 266 = .ok (.invokevirtual 43, 3) := by decide +kernel
theorem dL_law_269 : decode cL_law 269 = .ok (.iconst 1, 1) := by decide +kernel
theorem dL_law_270 : decode cL_law 270 = .ok (.isub, 1) := by decide +kernel
theorem dL_law_271 : decode cL_law 271 = .ok (.if_icmp .ne 21, 3) := by decide +kernel
theorem dL_law_274 : decode cL_law 274 = .ok (.aload_n 1, 1) := by decide +kernel
theorem dL_law_275 : decode cL_law 275 = .ok (.aload_n 1, 1) := by decide +kernel
theorem dL_law_276 : decode cL_law 276 = .ok (.invokevirtual 43, 3) := by decide +kernel
theorem dL_law_279 : decode cL_law 279 = .ok (.iconst 1, 1) := by decide +kernel
theorem dL_law_280 : decode cL_law 280 = .ok (.isub, 1) := by decide +kernel
theorem dL_law_281 : decode cL_law 281 = .ok (.invokevirtual 47, 3) := by decide +kernel
theorem dL_law_284 : decode cL_law 284 = .ok (.iconst (-1), 1) := by decide +kernel
theorem dL_law_285 : decode cL_law 285 = .ok (.if_icmp .ne 7, 3) := by decide +kernel
theorem dL_law_288 : decode cL_law 288 = .ok (.iconst 1, 1) := by decide +kernel
theorem dL_law_289 : decode cL_law 289 = .ok (.goto 4, 3) := by decide +kernel
theorem dL_law_292 : decode cL_law 292 = .ok (.iconst 0, 1) := by decide +kernel
theorem dL_law_293 : decode cL_law 293 = .ok (.istore_n 2, 1) := by decide +kernel
theorem dL_law_294 : decode cL_law 294 = .ok (.goto 187, 3) := by decide +kernel
theorem dL_law_297 : decode cL_law 297 = .ok (.iload 9, 2) := by decide +kernel
theorem dL_law_299 : decode cL_law 299 = .ok (.bipush 8, 2) := by decide +kernel
theorem dL_law_301 : decode cL_law 301 = .ok (.irem, 1) := by decide +kernel
theorem dL_law_302 : decode cL_law 302 = .ok (.bipush 7, 2) := by decide +kernel
theorem dL_law_304 : decode cL_law 304 = .ok (.if_icmp .ne 123, 3) := by decide +kernel
theorem dL_law_307 : decode cL_law 307 = .ok (.aload_n 1, 1) := by decide +kernel
theorem dL_law_308 : decode cL_law 308 = .ok (.invokevirtual 85, 3) := by decide +kernel
theorem dL_law_311 : decode cL_law 311 = .ok (.istore 12, 2) := by decide +kernel
theorem dL_law_313 : decode cL_law 313 = .ok (.iconst 0, 1) := by decide +kernel
theorem dL_law_314 : decode cL_law 314 = .ok (.istore 13, 2) := by decide +kernel
theorem dL_law_316 : decode cL_law 316 = .ok (.iload 5, 2) := by decide +kernel
theorem dL_law_318 : decode cL_law 318 = .ok (.ifCond .ne 38, 3) := by decide +kernel
theorem dL_law_321 : decode cL_law 321 = .ok (.iload 4, 2) := by decide +kernel
theorem dL_law_323 : decode cL_law 323 = .ok (.iconst 4, 1) := by decide +kernel
theorem dL_law_324 : decode cL_law 324 = .ok (.if_icmp .ge 32, 3) := by decide +kernel
theorem dL_law_327 : decode cL_law 327 = .ok (.iload 10, 2) := by decide +kernel
theorem dL_law_329 : decode cL_law 329 = .ok (.iconst 5, 1) := by decide +kernel
theorem dL_law_330 : decode cL_law 330 = .ok (.irem, 1) := by decide +kernel
theorem dL_law_331 : decode cL_law 331 = .ok (.ifCond .le 25, 3) := by decide +kernel
theorem dL_law_334 : decode cL_law 334 = .ok (.iinc 4 1, 3) := by decide +kernel
theorem dL_law_337 : decode cL_law 337 = .ok (.aload_n 1, 1) := by decide +kernel
theorem dL_law_338 : decode cL_law 338 = .ok (.iload 10, 2) := by decide +kernel
theorem dL_law_340 : decode cL_law 340 = .ok (.iconst 5, 1) := by decide +kernel
theorem dL_law_341 : decode cL_law 341 = .ok (.idiv, 1) := by decide +kernel
theorem dL_law_342 : decode cL_law 342 = .ok (.ldc 17, 2) := by decide +kernel
theorem dL_law_344 : decode cL_law 344 = .ok (.irem, 1) := by decide +kernel
theorem dL_law_345 : decode cL_law 345 = .ok (.ldc 108, 2) := by decide +kernel
theorem dL_law_347 : decode cL_law 347 = .ok (.isub, 1) := by decide +kernel
theorem dL_law_348 : decode cL_law 348 = .ok (.invokevirtual 109, 3) := by decide +kernel
theorem dL_law_351 : decode cL_law 351 = .ok (.istore 13, 2) := by decide +kernel
theorem dL_law_353 : decode cL_law 353 = .ok (.goto 44, 3) := by decide +kernel
theorem dL_law_356 : decode cL_law 356 = .ok (.iload 5, 2) := by decide +kernel
theorem dL_law_358 : decode cL_law 358 = .ok (.ifCond .ne 39, 3) := by decide +kernel
theorem dL_law_361 : decode cL_law 361 = .ok (.iload 10, 2) := by decide +kernel
theorem dL_law_363 : decode cL_law 363 = .ok (.iconst 3, 1) := by decide +kernel
theorem dL_law_364 : decode cL_law 364 = .ok (.irem, 1) := by decide +kernel
theorem dL_law_365 : decode cL_law 365 = .ok (.ifCond .ne 32, 3) := by decide +kernel
theorem dL_law_368 : decode cL_law 368 = .ok (.iconst 1, 1) := by decide +kernel
theorem dL_law_369 : decode cL_law 369 = .ok (.istore 5, 2) := by decide +kernel
theorem dL_law_371 : decode cL_law 371 = .ok (.aload_n 1, 1) := by decide +kernel
theorem dL_law_372 : decode cL_law 372 = .ok (.invokevirtual 112, 3) := by decide +kernel
theorem dL_law_375 : decode cL_law 375 = .ok (.istore 13, 2) := by decide +kernel
theorem dL_law_377 : decode cL_law 377 = .ok (.aload_n 1, 1) := by decide +kernel
theorem dL_law_378 : decode cL_law 378 = .ok (.iconst 3, 1) := by decide +kernel
theorem dL_law_379 : decode cL_law 379 = .ok (.invokevirtual 115, 3) := by decide +kernel
theorem dL_law_382 : decode cL_law 382 = .ok (.ifCond .ne 9, 3) := by decide +kernel
theorem dL_law_385 : decode cL_law 385 = .ok (.iload 4, 2) := by decide +kernel
theorem dL_law_387 : decode cL_law 387 = .ok (.iconst 4, 1) := by decide +kernel
theorem dL_law_388 : decode cL_law 388 = .ok (.if_icmp .ne 7, 3) := by decide +kernel
theorem dL_law_391 : decode cL_law 391 = .ok (.iconst 1, 1) := by decide +kernel
theorem dL_law_392 : decode cL_law 392 = .ok (.goto 4, 3) := by decide +kernel
theorem dL_law_395 : decode cL_law 395 = .ok (.iconst 0, 1) := by decide +kernel
theorem dL_law_396 : decode cL_law 396 = .ok (.istore_n 2, 1) := by decide +kernel
theorem dL_law_397 : decode cL_law 397 = .ok (.iload_n 2, 1) := by decide +kernel
theorem dL_law_398 : decode cL_law 398 = .ok (.ifCond .eq 24, 3) := by decide +kernel
theorem dL_law_401 : decode cL_law 401 = .ok (.iload 13, 2) := by decide +kernel
theorem dL_law_403 : decode cL_law 403 = .ok (.ifCond .lt 19, 3) := by decide +kernel
theorem dL_law_406 : decode cL_law 406 = .ok (.aload_n 1, 1) := by decide +kernel
theorem dL_law_407 : decode cL_law 407 = .ok (.invokevirtual 85, 3) := by decide +kernel
theorem dL_law_410 : decode cL_law 410 = .ok (.iload 12, 2) := by decide +kernel
theorem dL_law_412 : decode cL_law 412 = .ok (.iload 13, 2) := by decide +kernel
theorem dL_law_414 : decode cL_law 414 = .ok (.iadd, 1) := by decide +kernel
theorem dL_law_415 : decode cL_law 415 = .ok (.if_icmp .ne 7, 3) := by decide +kernel
theorem dL_law_418 : decode cL_law 418 = .ok (.iconst 1, 1) := by decide +kernel
theorem dL_law_419 : decode cL_law 419 = .ok (.goto 4, 3) := by decide +kernel
theorem dL_law_422 : decode cL_law 422 = .ok (.iconst 0, 1) := by decide +kernel
theorem dL_law_423 : decode cL_law 423 = .ok (.istore_n 2, 1) := by decide +kernel
theorem dL_law_424 : decode cL_law 424 = .ok (.goto 57, 3) := by decide +kernel
theorem dL_law_427 : decode cL_law 427 = .ok (.iload 9, 2) := by decide +kernel
theorem dL_law_429 : decode cL_law 429 = .ok (.bipush 8, 2) := by decide +kernel
theorem dL_law_431 : decode cL_law 431 = .ok (.irem, 1) := by decide +kernel
theorem dL_law_432 : decode cL_law 432 = .ok (.iconst 5, 1) := by decide +kernel
theorem dL_law_433 : decode cL_law 433 = .ok (.if_icmp .ge 48, 3) := by decide +kernel
theorem dL_law_436 : decode cL_law 436 = .ok (.aload_n 1, 1) := by decide +kernel
theorem dL_law_437 : decode cL_law 437 = .ok (.invokevirtual 43, 3) := by decide +kernel
theorem dL_law_440 : decode cL_law 440 = .ok (.ifCond .ne 7, 3) := by decide +kernel
theorem dL_law_443 : decode cL_law 443 = .ok (.iconst 0, 1) := by decide +kernel
theorem dL_law_444 : decode cL_law 444 = .ok (.goto 10, 3) := by decide +kernel
theorem dL_law_447 : decode cL_law 447 = .ok (.iload 10, 2) := by decide +kernel
theorem dL_law_449 : decode cL_law 449 = .ok (.aload_n 1, 1) := by decide +kernel
theorem dL_law_450 : decode cL_law 450 = .ok (.invokevirtual 43, 3) := by decide +kernel
theorem dL_law_453 : decode cL_law 453 = .ok (.irem, 1) := by decide +kernel
theorem dL_law_454 : decode cL_law 454 = .ok (.istore 12, 2) := by decide +kernel
theorem dL_law_456 : decode cL_law 456 = .ok (.aload_n 1, 1) := by decide +kernel
theorem dL_law_457 : decode cL_law 457 = .ok (.iload 9, 2) := by decide +kernel
theorem dL_law_459 : decode cL_law 459 = .ok (.iload 10, 2) := by decide +kernel
theorem dL_law_461 : decode cL_law 461 = .ok (.aload_n 0, 1) := by decide +kernel
theorem dL_law_462 : decode cL_law 462 = .ok (.iload 8, 2) := by decide +kernel
theorem dL_law_464 : decode cL_law 464 = .ok (.iconst 5, 1) := by decide +kernel
theorem dL_law_465 : decode cL_law 465 = .ok (.iadd, 1) := by decide +kernel
theorem dL_law_466 : decode cL_law 466 = .ok (.invokestatic 9, 3) := by decide +kernel
theorem dL_law_469 : decode cL_law 469 = .ok (.aload 7, 2) := by decide +kernel
theorem dL_law_471 : decode cL_law 471 = .ok (.iload 12, 2) := by decide +kernel
theorem dL_law_473 : decode cL_law 473 = .ok (.iaload, 1) := by decide +kernel
theorem dL_law_474 : decode cL_law 474 = .ok (.iconst 1, 1) := by decide +kernel
theorem dL_law_475 : decode cL_law 475 = .ok (.iadd, 1) := by decide +kernel
theorem dL_law_476 : decode cL_law 476 = .ok (.irem, 1) := by decide +kernel
theorem dL_law_477 : decode cL_law 477 = .ok (.invokestatic 119, 3) := by decide +kernel
theorem dL_law_480 : decode cL_law 480 = .ok (.istore_n 2, 1) := by decide +kernel
theorem dL_law_481 : decode cL_law 481 = .ok (.iload_n 2, 1) := by decide +kernel
theorem dL_law_482 : decode cL_law 482 = .ok (.ifCond .eq 14, 3) := by decide +kernel
theorem dL_law_485 : decode cL_law 485 = .ok (.aload_n 1, 1) := by decide +kernel
theorem dL_law_486 : decode cL_law 486 = .ok (.invokestatic 101, 3) := by decide +kernel
theorem dL_law_489 : decode cL_law 489 = .ok (.ifCond .eq 7, 3) := by decide +kernel
theorem dL_law_492 : decode cL_law 492 = .ok (.iconst 1, 1) := by decide +kernel
theorem dL_law_493 : decode cL_law 493 = .ok (.goto 4, 3) := by decide +kernel
theorem dL_law_496 : decode cL_law 496 = .ok (.iconst 0, 1) := by decide +kernel
theorem dL_law_497 : decode cL_law 497 = .ok (.istore_n 2, 1) := by decide +kernel
theorem dL_law_498 : decode cL_law 498 = .ok (.iinc 8 1, 3) := by decide +kernel
theorem dL_law_501 : decode cL_law 501 = .ok (.goto (-342), 3) := by decide +kernel
theorem dL_law_504 : decode cL_law 504 = .ok (.iload_n 2, 1) := by decide +kernel
theorem dL_law_505 : decode cL_law 505 = .ok (.ireturn, 1) := by decide +kernel
