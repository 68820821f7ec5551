theorem dX5_init_0 : decode cX5_init 0 = .ok (.aload_n 0, 1) := by decide +kernel
theorem dX5_init_1 : decode cX5_init 1 = .ok (.invokespecial 1, 3) := by decide +kernel
theorem dX5_init_4 : decode cX5_init 4 = .ok (.aload_n 0, 1) := by decide +kernel
theorem dX5_init_5 : decode cX5_init 5 = .ok (.iconst 4, 1) := by decide +kernel
theorem dX5_init_6 : decode cX5_init 6 = .ok (.newarray .int, 2) := by decide +kernel
theorem dX5_init_8 : decode cX5_init 8 = .ok (.putfield 7, 3) := by decide +kernel
theorem dX5_init_11 : decode cX5_init 11 = .ok (.aload_n 0, 1) := by decide +kernel
theorem dX5_init_12 : decode cX5_init 12 = .ok (.iconst 4, 1) := by decide +kernel
theorem dX5_init_13 : decode cX5_init 13 = .ok (.newarray .int, 2) := by decide +kernel
theorem dX5_init_15 : decode cX5_init 15 = .ok (.putfield 13, 3) := by decide +kernel
theorem dX5_init_18 : decode cX5_init 18 = .ok (.aload_n 0, 1) := by decide +kernel
theorem dX5_init_19 : decode cX5_init 19 = .ok (.iconst 3, 1) := by decide +kernel
theorem dX5_init_20 : decode cX5_init 20 = .ok (.newarray .int, 2) := by decide +kernel
theorem dX5_init_22 : decode cX5_init 22 = .ok (.putfield 16, 3) := by decide +kernel
theorem dX5_init_25 : decode cX5_init 25 = .ok (.aload_n 0, 1) := by decide +kernel
theorem dX5_init_26 : decode cX5_init 26 = .ok (.iconst 3, 1) := by decide +kernel
theorem dX5_init_27 : decode cX5_init 27 = .ok (.newarray .int, 2) := by decide +kernel
theorem dX5_init_29 : decode cX5_init 29 = .ok (.putfield 19, 3) := by decide +kernel
theorem dX5_init_32 : decode cX5_init 32 = .ok (.aload_n 0, 1) := by decide +kernel
theorem dX5_init_33 : decode cX5_init 33 = .ok (.iconst 3, 1) := by decide +kernel
theorem dX5_init_34 : decode cX5_init 34 = .ok (.newarray .boolean, 2) := by decide +kernel
theorem dX5_init_36 : decode cX5_init 36 = .ok (.putfield 22, 3) := by decide +kernel
theorem dX5_init_39 : decode cX5_init 39 = .ok (.aload_n 0, 1) := by decide +kernel
theorem dX5_init_40 : decode cX5_init 40 = .ok (.iconst 3, 1) := by decide +kernel
theorem dX5_init_41 : decode cX5_init 41 = .ok (.newarray .int, 2) := by decide +kernel
theorem dX5_init_43 : decode cX5_init 43 = .ok (.putfield 26, 3) := by decide +kernel
theorem dX5_init_46 : decode cX5_init 46 = .ok (.aload_n 0, 1) := by decide +kernel
theorem dX5_init_47 : decode cX5_init 47 = .ok (.iconst 3, 1) := by decide +kernel
theorem dX5_init_48 : decode cX5_init 48 = .ok (.newarray .int, 2) := by decide +kernel
theorem dX5_init_50 : decode cX5_init 50 = .ok (.putfield 29, 3) := by decide +kernel
theorem dX5_init_53 : decode cX5_init 53 = .ok (.aload_n 0, 1) := by decide +kernel
theorem dX5_init_54 : decode cX5_init 54 = .ok (.iconst 4, 1) := by decide +kernel
theorem dX5_init_55 : decode cX5_init 55 = .ok (.newarray .int, 2) := by decide +kernel
theorem dX5_init_57 : decode cX5_init 57 = .ok (.putfield 32, 3) := by decide +kernel
theorem dX5_init_60 : decode cX5_init 60 = .ok (.aload_n 0, 1) := by decide +kernel
theorem dX5_init_61 : decode cX5_init 61 = .ok (.iconst 4, 1) := by decide +kernel
theorem dX5_init_62 : decode cX5_init 62 = .ok (.newarray .int, 2) := by decide +kernel
theorem dX5_init_64 : decode cX5_init 64 = .ok (.putfield 35, 3) := by decide +kernel
theorem dX5_init_67 : decode cX5_init 67 = .ok (.aload_n 0, 1) := by decide +kernel
theorem dX5_init_68 : decode cX5_init 68 = .ok (.bipush 20, 2) := by decide +kernel
theorem dX5_init_70 : decode cX5_init 70 = .ok (.newarray .int, 2) := by decide +kernel
theorem dX5_init_72 : decode cX5_init 72 = .ok (.putfield 38, 3) := by decide +kernel
theorem dX5_init_75 : decode cX5_init 75 = .ok (.aload_n 0, 1) := by decide +kernel
theorem dX5_init_76 : decode cX5_init 76 = .ok (.bipush 20, 2) := by decide +kernel
theorem dX5_init_78 : decode cX5_init 78 = .ok (.newarray .int, 2) := by decide +kernel
theorem dX5_init_80 : decode cX5_init 80 = .ok (.putfield 41, 3) := by decide +kernel
theorem dX5_init_83 : decode cX5_init 83 = .ok (.aload_n 0, 1) := by decide +kernel
theorem dX5_init_84 : decode cX5_init 84 = .ok (.bipush 20, 2) := by decide +kernel
theorem dX5_init_86 : decode cX5_init 86 = .ok (.newarray .int, 2) := by decide +kernel
theorem dX5_init_88 : decode cX5_init 88 = .ok (.putfield 44, 3) := by decide +kernel
theorem dX5_init_91 : decode cX5_init 91 = .ok (.aload_n 0, 1) := by decide +kernel
theorem dX5_init_92 : decode cX5_init 92 = .ok (.bipush 20, 2) := by decide +kernel
theorem dX5_init_94 : decode cX5_init 94 = .ok (.newarray .int, 2) := by decide +kernel
theorem dX5_init_96 : decode cX5_init 96 = .ok (.putfield 47, 3) := by decide +kernel
theorem dX5_init_99 : decode cX5_init 99 = .ok (.aload_n 0, 1) := by decide +kernel
theorem dX5_init_100 : decode cX5_init 100 = .ok (.iconst 4, 1) := by decide +kernel
theorem dX5_init_101 : decode cX5_init 101 = .ok (.newarray .int, 2) := by decide +kernel
theorem dX5_init_103 : decode cX5_init 103 = .ok (.putfield 50, 3) := by decide +kernel
theorem dX5_init_106 : decode cX5_init 106 = .ok (.aload_n 0, 1) := by decide +kernel
theorem dX5_init_107 : decode cX5_init 107 = .ok (.iconst 4, 1) := by decide +kernel
theorem dX5_init_108 : decode cX5_init 108 = .ok (.newarray .boolean, 2) := by decide +kernel
theorem dX5_init_110 : decode cX5_init 110 = .ok (.putfield 53, 3) := by decide +kernel
theorem dX5_init_113 : decode cX5_init 113 = .ok (.return_, 1) := by decide +kernel
theorem dX5_thrown_0 : decode cX5_thrown 0 = .ok (.aload_n 0, 1) := by decide +kernel
theorem dX5_thrown_1 : decode cX5_thrown 1 = .ok (.getfield 56, 3) := by decide +kernel
theorem dX5_thrown_4 : decode cX5_thrown 4 = .ok (.ireturn, 1) := by decide +kernel
theorem dX5_in_0 : decode cX5_in 0 = .ok (.iload_n 0, 1) := by decide +kernel
theorem dX5_in_1 : decode cX5_in 1 = .ok (.iload_n 1, 1) := by decide +kernel
theorem dX5_in_2 : decode cX5_in 2 = .ok (.if_icmp .lt 12, 3) := by decide +kernel
theorem dX5_in_5 : decode cX5_in 5 = .ok (.iload_n 0, 1) := by decide +kernel
theorem dX5_in_6 : decode cX5_in 6 = .ok (.iload_n 2, 1) := by decide +kernel
theorem dX5_in_7 : decode cX5_in 7 = .ok (.if_icmp .gt 7, 3) := by decide +kernel
theorem dX5_in_10 : decode cX5_in 10 = .ok (.iconst 1, 1) := by decide +kernel
theorem dX5_in_11 : decode cX5_in 11 = .ok (.goto 4, 3) := by decide +kernel
theorem dX5_in_14 : decode cX5_in 14 = .ok (.iconst 0, 1) := by decide +kernel
theorem dX5_in_15 : decode cX5_in 15 = .ok (.ireturn, 1) := by decide +kernel
theorem dX5_isFine_0 : decode cX5_isFine 0 = .ok (.aload_n 0, 1) := by decide +kernel
theorem dX5_isFine_1 : decode cX5_isFine 1 = .ok (.iload_n 1, 1) := by decide +kernel
theorem dX5_isFine_2 : decode cX5_isFine 2 = .ok (.putfield 56, 3) := by decide +kernel
theorem dX5_isFine_5 : decode cX5_isFine 5 = .ok (.iload_n 1, 1) := by decide +kernel
theorem dX5_isFine_6 : decode cX5_isFine 6 = .ok (.ifCond .ne 7, 3) := by decide +kernel
theorem dX5_isFine_9 : decode cX5_isFine 9 = .ok (.iconst 1, 1) := by decide +kernel
theorem dX5_isFine_10 : decode cX5_isFine 10 = .ok (.goto 4, 3) := by decide +kernel
theorem dX5_isFine_13 : decode cX5_isFine 13 = .ok (.iconst 0, 1) := by decide +kernel
theorem dX5_isFine_14 : decode cX5_isFine 14 = .ok (.ireturn, 1) := by decide +kernel
set_option maxRecDepth 20000 in
theorem ggX5_setPrice_X5_in : GoodIn wsX5_setPrice wsX5_in := goodIn_r _ [10] (by decide +kernel) (by decide +kernel)
set_option maxRecDepth 20000 in
theorem gX5_setPrice_X5_in : GoodIn wsX5_setPrice (va_wsS RX5 61 yX5_in wsX5_in) := goodIn_app (goodIn_of _ (by decide +kernel)) ggX5_setPrice_X5_in
set_option maxRecDepth 20000 in
theorem ggX5_setPrice_X5_isFine : GoodIn wsX5_setPrice wsX5_isFine := goodIn_r _ [14, 15, 16, 17, 18, 19, 20, 21, 22, 23, 24, 25, 26, 27, 28, 29, 30, 31, 32, 33, 34, 35, 36, 37, 38, 39, 40, 41, 42, 43, 44, 45, 46] (by decide +kernel) (by decide +kernel)
set_option maxRecDepth 20000 in
theorem gX5_setPrice_X5_isFine : GoodIn wsX5_setPrice (wsV RX5 70 RX5 yX5_isFine wsX5_isFine) := goodIn_app (goodIn_of _ (by decide +kernel)) ggX5_setPrice_X5_isFine
theorem dX5_setPrice_0 : decode cX5_setPrice 0 = .ok (.aload_n 0, 1) := by decide +kernel
theorem dX5_setPrice_1 : decode cX5_setPrice 1 = .ok (.iload_n 1, 1) := by decide +kernel
theorem dX5_setPrice_2 : decode cX5_setPrice 2 = .ok (.iconst 0, 1) := by decide +kernel
theorem dX5_setPrice_3 : decode cX5_setPrice 3 = .ok (.ldc 60, 2) := by decide +kernel
theorem dX5_setPrice_5 : decode cX5_setPrice 5 = .ok (.invokestatic 61, 3) := by decide +kernel
theorem dX5_setPrice_8 : decode cX5_setPrice 8 = .ok (.ifCond .eq 24, 3) := by decide +kernel
theorem dX5_setPrice_11 : decode cX5_setPrice 11 = .ok (.iload_n 2, 1) := by decide +kernel
theorem dX5_setPrice_12 : decode cX5_setPrice 12 = .ok (.ldc 65, 2) := by decide +kernel
theorem dX5_setPrice_14 : decode cX5_setPrice 14 = .ok (.ldc 60, 2) := by decide +kernel
theorem dX5_setPrice_16 : decode cX5_setPrice 16 = .ok (.invokestatic 61, 3) := by decide +kernel
theorem dX5_setPrice_19 : decode cX5_setPrice 19 = .ok (.ifCond .eq 13, 3) := by decide +kernel
theorem dX5_setPrice_22 : decode cX5_setPrice 22 = .ok (.iload_n 3, 1) := by decide +kernel
theorem dX5_setPrice_23 : decode cX5_setPrice 23 = .ok (.iconst 0, 1) := by decide +kernel
theorem dX5_setPrice_24 : decode cX5_setPrice 24 = .ok (.ldc 60, 2) := by decide +kernel
theorem dX5_setPrice_26 : decode cX5_setPrice 26 = .ok (.invokestatic 61, 3) := by decide +kernel
theorem dX5_setPrice_29 : decode cX5_setPrice 29 = .ok (.ifCond .ne 7, 3) := by decide +kernel
theorem dX5_setPrice_32 : decode cX5_setPrice 32 = .ok (.iconst 1, 1) := by decide +kernel
theorem dX5_setPrice_33 : decode cX5_setPrice 33 = .ok (.goto 15, 3) := by decide +kernel
theorem dX5_setPrice_36 : decode cX5_setPrice 36 = .ok (.aload_n 0, 1) := by decide +kernel
theorem dX5_setPrice_37 : decode cX5_setPrice 37 = .ok (.getfield 66, 3) := by decide +kernel
theorem dX5_setPrice_40 : decode cX5_setPrice 40 = .ok (.ifCond .eq 7, 3) := by decide +kernel
theorem dX5_setPrice_43 : decode cX5_setPrice 43 = .ok (.iconst 2, 1) := by decide +kernel
theorem dX5_setPrice_44 : decode cX5_setPrice 44 = .ok (.goto 4, 3) := by decide +kernel
theorem dX5_setPrice_47 : decode cX5_setPrice 47 = .ok (.iconst 0, 1) := by decide +kernel
theorem dX5_setPrice_48 : decode cX5_setPrice 48 = .ok (.invokevirtual 70, 3) := by decide +kernel
theorem dX5_setPrice_51 : decode cX5_setPrice 51 = .ok (.ifCond .eq 18, 3) := by decide +kernel
theorem dX5_setPrice_54 : decode cX5_setPrice 54 = .ok (.aload_n 0, 1) := by decide +kernel
theorem dX5_setPrice_55 : decode cX5_setPrice 55 = .ok (.iload_n 1, 1) := by decide +kernel
theorem dX5_setPrice_56 : decode cX5_setPrice 56 = .ok (.putfield 74, 3) := by decide +kernel
theorem dX5_setPrice_59 : decode cX5_setPrice 59 = .ok (.aload_n 0, 1) := by decide +kernel
theorem dX5_setPrice_60 : decode cX5_setPrice 60 = .ok (.iload_n 2, 1) := by decide +kernel
theorem dX5_setPrice_61 : decode cX5_setPrice 61 = .ok (.putfield 77, 3) := by decide +kernel
theorem dX5_setPrice_64 : decode cX5_setPrice 64 = .ok (.aload_n 0, 1) := by decide +kernel
theorem dX5_setPrice_65 : decode cX5_setPrice 65 = .ok (.iload_n 3, 1) := by decide +kernel
theorem dX5_setPrice_66 : decode cX5_setPrice 66 = .ok (.putfield 80, 3) := by decide +kernel
theorem dX5_setPrice_69 : decode cX5_setPrice 69 = .ok (.return_, 1) := by decide +kernel
set_option maxRecDepth 20000 in
theorem ggX5_setPart_X5_in : GoodIn wsX5_setPart wsX5_in := goodIn_r _ [8] (by decide +kernel) (by decide +kernel)
set_option maxRecDepth 20000 in
theorem gX5_setPart_X5_in : GoodIn wsX5_setPart (va_wsS RX5 61 yX5_in wsX5_in) := goodIn_app (goodIn_of _ (by decide +kernel)) ggX5_setPart_X5_in
set_option maxRecDepth 20000 in
theorem ggX5_setPart_X5_isFine : GoodIn wsX5_setPart wsX5_isFine := goodIn_r _ [12, 13, 14, 15, 16, 17, 18, 19, 20, 21, 22, 23, 24, 25, 26, 27, 28, 29, 30, 31, 32, 33, 34, 35, 36, 37, 38, 39, 40, 41, 42, 43, 44] (by decide +kernel) (by decide +kernel)
set_option maxRecDepth 20000 in
theorem gX5_setPart_X5_isFine : GoodIn wsX5_setPart (wsV RX5 70 RX5 yX5_isFine wsX5_isFine) := goodIn_app (goodIn_of _ (by decide +kernel)) ggX5_setPart_X5_isFine
theorem dX5_setPart_0 : decode cX5_setPart 0 = .ok (.aload_n 0, 1) := by decide +kernel
theorem dX5_setPart_1 : decode cX5_setPart 1 = .ok (.iload_n 1, 1) := by decide +kernel
theorem dX5_setPart_2 : decode cX5_setPart 2 = .ok (.iconst 0, 1) := by decide +kernel
theorem dX5_setPart_3 : decode cX5_setPart 3 = .ok (.iconst 3, 1) := by decide +kernel
theorem dX5_setPart_4 : decode cX5_setPart 4 = .ok (.invokestatic 61, 3) := by decide +kernel
theorem dX5_setPart_7 : decode cX5_setPart 7 = .ok (.ifCond .ne 7, 3) := by decide +kernel
theorem dX5_setPart_10 : decode cX5_setPart 10 = .ok (.iconst 1, 1) := by decide +kernel
theorem dX5_setPart_11 : decode cX5_setPart 11 = .ok (.goto 40, 3) := by decide +kernel
theorem dX5_setPart_14 : decode cX5_setPart 14 = .ok (.iload_n 2, 1) := by decide +kernel
theorem dX5_setPart_15 : decode cX5_setPart 15 = .ok (.iconst 0, 1) := by decide +kernel
theorem dX5_setPart_16 : decode cX5_setPart 16 = .ok (.ldc 60, 2) := by decide +kernel
theorem dX5_setPart_18 : decode cX5_setPart 18 = .ok (.invokestatic 61, 3) := by decide +kernel
theorem dX5_setPart_21 : decode cX5_setPart 21 = .ok (.ifCond .eq 14, 3) := by decide +kernel
theorem dX5_setPart_24 : decode cX5_setPart 24 = .ok (.iload_n 3, 1) := by decide +kernel
theorem dX5_setPart_25 : decode cX5_setPart 25 = .ok (.iconst 1, 1) := by decide +kernel
theorem dX5_setPart_26 : decode cX5_setPart 26 = .ok (.sipush 2000, 3) := by decide +kernel
theorem dX5_setPart_29 : decode cX5_setPart 29 = .ok (.invokestatic 61, 3) := by decide +kernel
theorem dX5_setPart_32 : decode cX5_setPart 32 = .ok (.ifCond .ne 7, 3) := by decide +kernel
theorem dX5_setPart_35 : decode cX5_setPart 35 = .ok (.iconst 2, 1) := by decide +kernel
theorem dX5_setPart_36 : decode cX5_setPart 36 = .ok (.goto 15, 3) := by decide +kernel
theorem dX5_setPart_39 : decode cX5_setPart 39 = .ok (.aload_n 0, 1) := by decide +kernel
theorem dX5_setPart_40 : decode cX5_setPart 40 = .ok (.getfield 66, 3) := by decide +kernel
theorem dX5_setPart_43 : decode cX5_setPart 43 = .ok (.ifCond .eq 7, 3) := by decide +kernel
theorem dX5_setPart_46 : decode cX5_setPart 46 = .ok (.iconst 3, 1) := by decide +kernel
theorem dX5_setPart_47 : decode cX5_setPart 47 = .ok (.goto 4, 3) := by decide +kernel
theorem dX5_setPart_50 : decode cX5_setPart 50 = .ok (.iconst 0, 1) := by decide +kernel
theorem dX5_setPart_51 : decode cX5_setPart 51 = .ok (.invokevirtual 70, 3) := by decide +kernel
theorem dX5_setPart_54 : decode cX5_setPart 54 = .ok (.ifCond .eq 17, 3) := by decide +kernel
theorem dX5_setPart_57 : decode cX5_setPart 57 = .ok (.aload_n 0, 1) := by decide +kernel
theorem dX5_setPart_58 : decode cX5_setPart 58 = .ok (.getfield 7, 3) := by decide +kernel
theorem dX5_setPart_61 : decode cX5_setPart 61 = .ok (.iload_n 1, 1) := by decide +kernel
theorem dX5_setPart_62 : decode cX5_setPart 62 = .ok (.iload_n 2, 1) := by decide +kernel
theorem dX5_setPart_63 : decode cX5_setPart 63 = .ok (.iastore, 1) := by decide +kernel
theorem dX5_setPart_64 : decode cX5_setPart 64 = .ok (.aload_n 0, 1) := by decide +kernel
theorem dX5_setPart_65 : decode cX5_setPart 65 = .ok (.getfield 13, 3) := by decide +kernel
theorem dX5_setPart_68 : decode cX5_setPart 68 = .ok (.iload_n 1, 1) := by decide +kernel
theorem dX5_setPart_69 : decode cX5_setPart 69 = .ok (.iload_n 3, 1) := by decide +kernel
theorem dX5_setPart_70 : decode cX5_setPart 70 = .ok (.iastore, 1) := by decide +kernel
theorem dX5_setPart_71 : decode cX5_setPart 71 = .ok (.return_, 1) := by decide +kernel
set_option maxRecDepth 20000 in
theorem ggX5_setKind_X5_in : GoodIn wsX5_setKind wsX5_in := goodIn_r _ [12] (by decide +kernel) (by decide +kernel)
set_option maxRecDepth 20000 in
theorem gX5_setKind_X5_in : GoodIn wsX5_setKind (va_wsS RX5 61 yX5_in wsX5_in) := goodIn_app (goodIn_of _ (by decide +kernel)) ggX5_setKind_X5_in
set_option maxRecDepth 20000 in
theorem ggX5_setKind_X5_isFine : GoodIn wsX5_setKind wsX5_isFine := goodIn_r _ [16, 17, 18, 19, 20, 21, 22, 23, 24, 25, 26, 27, 28, 29, 30, 31, 32, 33, 34, 35, 36, 37, 38, 39, 40, 41, 42, 43, 44, 45, 46, 47, 48] (by decide +kernel) (by decide +kernel)
set_option maxRecDepth 20000 in
theorem gX5_setKind_X5_isFine : GoodIn wsX5_setKind (wsV RX5 70 RX5 yX5_isFine wsX5_isFine) := goodIn_app (goodIn_of _ (by decide +kernel)) ggX5_setKind_X5_isFine
theorem dX5_setKind_0 : decode cX5_setKind 0 = .ok (.iload_n 2, 1) := by decide +kernel
theorem dX5_setKind_1 : decode cX5_setKind 1 = .ok (.iconst 0, 1) := by decide +kernel
theorem dX5_setKind_2 : decode cX5_setKind 2 = .ok (.ldc 60, 2) := by decide +kernel
theorem dX5_setKind_4 : decode cX5_setKind 4 = .ok (.invokestatic 61, 3) := by decide +kernel
theorem dX5_setKind_7 : decode cX5_setKind 7 = .ok (.ifCond .eq 40, 3) := by decide +kernel
theorem dX5_setKind_10 : decode cX5_setKind 10 = .ok (.iload_n 3, 1) := by decide +kernel
theorem dX5_setKind_11 : decode cX5_setKind 11 = .ok (.iconst 0, 1) := by decide +kernel
theorem dX5_setKind_12 : decode cX5_setKind 12 = .ok (.ldc 60, 2) := by decide +kernel
theorem dX5_setKind_14 : decode cX5_setKind 14 = .ok (.invokestatic 61, 3) := by decide +kernel
theorem dX5_setKind_17 : decode cX5_setKind 17 = .ok (.ifCond .eq 30, 3) := by decide +kernel
theorem dX5_setKind_20 : decode cX5_setKind 20 = .ok (.iload 5, 2) := by decide +kernel
theorem dX5_setKind_22 : decode cX5_setKind 22 = .ok (.iconst 0, 1) := by decide +kernel
theorem dX5_setKind_23 : decode cX5_setKind 23 = .ok (.ldc 83, 2) := by decide +kernel
theorem dX5_setKind_25 : decode cX5_setKind 25 = .ok (.invokestatic 61, 3) := by decide +kernel
theorem dX5_setKind_28 : decode cX5_setKind 28 = .ok (.ifCond .eq 19, 3) := by decide +kernel
theorem dX5_setKind_31 : decode cX5_setKind 31 = .ok (.iload 6, 2) := by decide +kernel
theorem dX5_setKind_33 : decode cX5_setKind 33 = .ok (.iconst 0, 1) := by decide +kernel
theorem dX5_setKind_34 : decode cX5_setKind 34 = .ok (.sipush 2000, 3) := by decide +kernel
theorem dX5_setKind_37 : decode cX5_setKind 37 = .ok (.invokestatic 61, 3) := by decide +kernel
theorem dX5_setKind_40 : decode cX5_setKind 40 = .ok (.ifCond .eq 7, 3) := by decide +kernel
theorem dX5_setKind_43 : decode cX5_setKind 43 = .ok (.iconst 1, 1) := by decide +kernel
theorem dX5_setKind_44 : decode cX5_setKind 44 = .ok (.goto 4, 3) := by decide +kernel
theorem dX5_setKind_47 : decode cX5_setKind 47 = .ok (.iconst 0, 1) := by decide +kernel
theorem dX5_setKind_48 : decode cX5_setKind 48 = .ok (.istore 7, 2) := by decide +kernel
theorem dX5_setKind_50 : decode cX5_setKind 50 = .ok (.aload_n 0, 1) := by decide +kernel
theorem dX5_setKind_51 : decode cX5_setKind 51 = .ok (.iload_n 1, 1) := by decide +kernel
theorem dX5_setKind_52 : decode cX5_setKind 52 = .ok (.iconst 0, 1) := by decide +kernel
theorem dX5_setKind_53 : decode cX5_setKind 53 = .ok (.iconst 2, 1) := by decide +kernel
theorem dX5_setKind_54 : decode cX5_setKind 54 = .ok (.invokestatic 61, 3) := by decide +kernel
theorem dX5_setKind_57 : decode cX5_setKind 57 = .ok (.ifCond .ne 7, 3) := by decide +kernel
theorem dX5_setKind_60 : decode cX5_setKind 60 = .ok (.iconst 1, 1) := by decide +kernel
theorem dX5_setKind_61 : decode cX5_setKind 61 = .ok (.goto 24, 3) := by decide +kernel
theorem dX5_setKind_64 : decode cX5_setKind 64 = .ok (.iload 7, 2) := by decide +kernel
theorem dX5_setKind_66 : decode cX5_setKind 66 = .ok (.ifCond .ne 7, 3) := by decide +kernel
theorem dX5_setKind_69 : decode cX5_setKind 69 = .ok (.iconst 2, 1) := by decide +kernel
theorem dX5_setKind_70 : decode cX5_setKind 70 = .ok (.goto 15, 3) := by decide +kernel
theorem dX5_setKind_73 : decode cX5_setKind 73 = .ok (.aload_n 0, 1) := by decide +kernel
theorem dX5_setKind_74 : decode cX5_setKind 74 = .ok (.getfield 66, 3) := by decide +kernel
theorem dX5_setKind_77 : decode cX5_setKind 77 = .ok (.ifCond .eq 7, 3) := by decide +kernel
theorem dX5_setKind_80 : decode cX5_setKind 80 = .ok (.iconst 3, 1) := by decide +kernel
theorem dX5_setKind_81 : decode cX5_setKind 81 = .ok (.goto 4, 3) := by decide +kernel
theorem dX5_setKind_84 : decode cX5_setKind 84 = .ok (.iconst 0, 1) := by decide +kernel
theorem dX5_setKind_85 : decode cX5_setKind 85 = .ok (.invokevirtual 70, 3) := by decide +kernel
theorem dX5_setKind_88 : decode cX5_setKind 88 = .ok (.ifCond .eq 41, 3) := by decide +kernel
theorem dX5_setKind_91 : decode cX5_setKind 91 = .ok (.aload_n 0, 1) := by decide +kernel
theorem dX5_setKind_92 : decode cX5_setKind 92 = .ok (.getfield 16, 3) := by decide +kernel
theorem dX5_setKind_95 : decode cX5_setKind 95 = .ok (.iload_n 1, 1) := by decide +kernel
theorem dX5_setKind_96 : decode cX5_setKind 96 = .ok (.iload_n 2, 1) := by decide +kernel
theorem dX5_setKind_97 : decode cX5_setKind 97 = .ok (.iastore, 1) := by decide +kernel
theorem dX5_setKind_98 : decode cX5_setKind 98 = .ok (.aload_n 0, 1) := by decide +kernel
theorem dX5_setKind_99 : decode cX5_setKind 99 = .ok (.getfield 19, 3) := by decide +kernel
theorem dX5_setKind_102 : decode cX5_setKind 102 = .ok (.iload_n 1, 1) := by decide +kernel
theorem dX5_setKind_103 : decode cX5_setKind 103 = .ok (.iload_n 3, 1) := by decide +kernel
theorem dX5_setKind_104 : decode cX5_setKind 104 = .ok (.iastore, 1) := by decide +kernel
theorem dX5_setKind_105 : decode cX5_setKind 105 = .ok (.aload_n 0, 1) := by decide +kernel
theorem dX5_setKind_106 : decode cX5_setKind 106 = .ok (.getfield 22, 3) := by decide +kernel
theorem dX5_setKind_109 : decode cX5_setKind 109 = .ok (.iload_n 1, 1) := by decide +kernel
theorem dX5_setKind_110 : decode cX5_setKind 110 = .ok (.iload 4, 2) := by decide +kernel
theorem dX5_setKind_112 : decode cX5_setKind 112 = .ok (.bastore, 1) := by decide +kernel
theorem dX5_setKind_113 : decode cX5_setKind 113 = .ok (.aload_n 0, 1) := by decide +kernel
theorem dX5_setKind_114 : decode cX5_setKind 114 = .ok (.getfield 26, 3) := by decide +kernel
theorem dX5_setKind_117 : decode cX5_setKind 117 = .ok (.iload_n 1, 1) := by decide +kernel
theorem dX5_setKind_118 : decode cX5_setKind 118 = .ok (.iload 5, 2) := by decide +kernel
theorem dX5_setKind_120 : decode cX5_setKind 120 = .ok (.iastore, 1) := by decide +kernel
theorem dX5_setKind_121 : decode cX5_setKind 121 = .ok (.aload_n 0, 1) := by decide +kernel
theorem dX5_setKind_122 : decode cX5_setKind 122 = .ok (.getfield 29, 3) := by decide +kernel
theorem dX5_setKind_125 : decode cX5_setKind 125 = .ok (.iload_n 1, 1) := by decide +kernel
theorem dX5_setKind_126 : decode cX5_setKind 126 = .ok (.iload 6, 2) := by decide +kernel
theorem dX5_setKind_128 : decode cX5_setKind 128 = .ok (.iastore, 1) := by decide +kernel
theorem dX5_setKind_129 : decode cX5_setKind 129 = .ok (.return_, 1) := by decide +kernel
set_option maxRecDepth 20000 in
theorem ggX5_setYear_X5_in : GoodIn wsX5_setYear wsX5_in := goodIn_r _ [8] (by decide +kernel) (by decide +kernel)
set_option maxRecDepth 20000 in
theorem gX5_setYear_X5_in : GoodIn wsX5_setYear (va_wsS RX5 61 yX5_in wsX5_in) := goodIn_app (goodIn_of _ (by decide +kernel)) ggX5_setYear_X5_in
set_option maxRecDepth 20000 in
theorem ggX5_setYear_X5_isFine : GoodIn wsX5_setYear wsX5_isFine := goodIn_r _ [12, 13, 14, 15, 16, 17, 18, 19, 20, 21, 22, 23, 24, 25, 26, 27, 28, 29, 30, 31, 32, 33, 34, 35, 36, 37, 38, 39, 40, 41, 42, 43, 44] (by decide +kernel) (by decide +kernel)
set_option maxRecDepth 20000 in
theorem gX5_setYear_X5_isFine : GoodIn wsX5_setYear (wsV RX5 70 RX5 yX5_isFine wsX5_isFine) := goodIn_app (goodIn_of _ (by decide +kernel)) ggX5_setYear_X5_isFine
theorem dX5_setYear_0 : decode cX5_setYear 0 = .ok (.aload_n 0, 1) := by decide +kernel
theorem dX5_setYear_1 : decode cX5_setYear 1 = .ok (.iload_n 1, 1) := by decide +kernel
theorem dX5_setYear_2 : decode cX5_setYear 2 = .ok (.iconst 0, 1) := by decide +kernel
theorem dX5_setYear_3 : decode cX5_setYear 3 = .ok (.iconst 3, 1) := by decide +kernel
theorem dX5_setYear_4 : decode cX5_setYear 4 = .ok (.invokestatic 61, 3) := by decide +kernel
theorem dX5_setYear_7 : decode cX5_setYear 7 = .ok (.ifCond .ne 7, 3) := by decide +kernel
theorem dX5_setYear_10 : decode cX5_setYear 10 = .ok (.iconst 1, 1) := by decide +kernel
theorem dX5_setYear_11 : decode cX5_setYear 11 = .ok (.goto 39, 3) := by decide +kernel
theorem dX5_setYear_14 : decode cX5_setYear 14 = .ok (.iload_n 2, 1) := by decide +kernel
theorem dX5_setYear_15 : decode cX5_setYear 15 = .ok (.iconst 0, 1) := by decide +kernel
theorem dX5_setYear_16 : decode cX5_setYear 16 = .ok (.ldc 60, 2) := by decide +kernel
theorem dX5_setYear_18 : decode cX5_setYear 18 = .ok (.invokestatic 61, 3) := by decide +kernel
theorem dX5_setYear_21 : decode cX5_setYear 21 = .ok (.ifCond .eq 13, 3) := by decide +kernel
theorem dX5_setYear_24 : decode cX5_setYear 24 = .ok (.iload_n 3, 1) := by decide +kernel
theorem dX5_setYear_25 : decode cX5_setYear 25 = .ok (.iconst 0, 1) := by decide +kernel
theorem dX5_setYear_26 : decode cX5_setYear 26 = .ok (.ldc 60, 2) := by decide +kernel
theorem dX5_setYear_28 : decode cX5_setYear 28 = .ok (.invokestatic 61, 3) := by decide +kernel
theorem dX5_setYear_31 : decode cX5_setYear 31 = .ok (.ifCond .ne 7, 3) := by decide +kernel
theorem dX5_setYear_34 : decode cX5_setYear 34 = .ok (.iconst 2, 1) := by decide +kernel
theorem dX5_setYear_35 : decode cX5_setYear 35 = .ok (.goto 15, 3) := by decide +kernel
theorem dX5_setYear_38 : decode cX5_setYear 38 = .ok (.aload_n 0, 1) := by decide +kernel
theorem dX5_setYear_39 : decode cX5_setYear 39 = .ok (.getfield 66, 3) := by decide +kernel
theorem dX5_setYear_42 : decode cX5_setYear 42 = .ok (.ifCond .eq 7, 3) := by decide +kernel
theorem dX5_setYear_45 : decode cX5_setYear 45 = .ok (.iconst 3, 1) := by decide +kernel
theorem dX5_setYear_46 : decode cX5_setYear 46 = .ok (.goto 4, 3) := by decide +kernel
theorem dX5_setYear_49 : decode cX5_setYear 49 = .ok (.iconst 0, 1) := by decide +kernel
theorem dX5_setYear_50 : decode cX5_setYear 50 = .ok (.invokevirtual 70, 3) := by decide +kernel
theorem dX5_setYear_53 : decode cX5_setYear 53 = .ok (.ifCond .eq 17, 3) := by decide +kernel
theorem dX5_setYear_56 : decode cX5_setYear 56 = .ok (.aload_n 0, 1) := by decide +kernel
theorem dX5_setYear_57 : decode cX5_setYear 57 = .ok (.getfield 32, 3) := by decide +kernel
theorem dX5_setYear_60 : decode cX5_setYear 60 = .ok (.iload_n 1, 1) := by decide +kernel
theorem dX5_setYear_61 : decode cX5_setYear 61 = .ok (.iload_n 2, 1) := by decide +kernel
theorem dX5_setYear_62 : decode cX5_setYear 62 = .ok (.iastore, 1) := by decide +kernel
theorem dX5_setYear_63 : decode cX5_setYear 63 = .ok (.aload_n 0, 1) := by decide +kernel
theorem dX5_setYear_64 : decode cX5_setYear 64 = .ok (.getfield 35, 3) := by decide +kernel
theorem dX5_setYear_67 : decode cX5_setYear 67 = .ok (.iload_n 1, 1) := by decide +kernel
theorem dX5_setYear_68 : decode cX5_setYear 68 = .ok (.iload_n 3, 1) := by decide +kernel
theorem dX5_setYear_69 : decode cX5_setYear 69 = .ok (.iastore, 1) := by decide +kernel
theorem dX5_setYear_70 : decode cX5_setYear 70 = .ok (.return_, 1) := by decide +kernel
set_option maxRecDepth 20000 in
theorem ggX5_setCarry_X5_isFine : GoodIn wsX5_setCarry wsX5_isFine := goodIn_r _ [7, 8, 9, 10, 11, 12, 13, 14, 15, 16, 17, 18, 19, 20, 21, 22, 23, 24, 25, 26, 27, 28, 29, 30, 31, 32, 33, 34, 35, 36, 37, 38, 39] (by decide +kernel) (by decide +kernel)
set_option maxRecDepth 20000 in
theorem gX5_setCarry_X5_isFine : GoodIn wsX5_setCarry (wsV RX5 70 RX5 yX5_isFine wsX5_isFine) := goodIn_app (goodIn_of _ (by decide +kernel)) ggX5_setCarry_X5_isFine
theorem dX5_setCarry_0 : decode cX5_setCarry 0 = .ok (.aload_n 0, 1) := by decide +kernel
theorem dX5_setCarry_1 : decode cX5_setCarry 1 = .ok (.aload_n 0, 1) := by decide +kernel
theorem dX5_setCarry_2 : decode cX5_setCarry 2 = .ok (.getfield 66, 3) := by decide +kernel
theorem dX5_setCarry_5 : decode cX5_setCarry 5 = .ok (.ifCond .eq 7, 3) := by decide +kernel
theorem dX5_setCarry_8 : decode cX5_setCarry 8 = .ok (.iconst 1, 1) := by decide +kernel
theorem dX5_setCarry_9 : decode cX5_setCarry 9 = .ok (.goto 4, 3) := by decide +kernel
theorem dX5_setCarry_12 : decode cX5_setCarry 12 = .ok (.iconst 0, 1) := by decide +kernel
theorem dX5_setCarry_13 : decode cX5_setCarry 13 = .ok (.invokevirtual 70, 3) := by decide +kernel
theorem dX5_setCarry_16 : decode cX5_setCarry 16 = .ok (.ifCond .eq 8, 3) := by decide +kernel
theorem dX5_setCarry_19 : decode cX5_setCarry 19 = .ok (.aload_n 0, 1) := by decide +kernel
theorem dX5_setCarry_20 : decode cX5_setCarry 20 = .ok (.iload_n 1, 1) := by decide +kernel
theorem dX5_setCarry_21 : decode cX5_setCarry 21 = .ok (.putfield 84, 3) := by decide +kernel
theorem dX5_setCarry_24 : decode cX5_setCarry 24 = .ok (.return_, 1) := by decide +kernel
set_option maxRecDepth 20000 in
theorem ggX5_close_X5_in : GoodIn wsX5_close wsX5_in := goodIn_r _ [14] (by decide +kernel) (by decide +kernel)
set_option maxRecDepth 20000 in
theorem gX5_close_X5_in : GoodIn wsX5_close (va_wsS RX5 61 yX5_in wsX5_in) := goodIn_app (goodIn_of _ (by decide +kernel)) ggX5_close_X5_in
set_option maxRecDepth 20000 in
theorem ggX5_close_X5_isFine : GoodIn wsX5_close wsX5_isFine := goodIn_r _ [18, 19, 20, 21, 22, 23, 24, 25, 26, 27, 28, 29, 30, 31, 32, 33, 34, 35, 36, 37, 38, 39, 40, 41, 42, 43, 44, 45, 46, 47, 48, 49, 50] (by decide +kernel) (by decide +kernel)
set_option maxRecDepth 20000 in
theorem gX5_close_X5_isFine : GoodIn wsX5_close (wsV RX5 70 RX5 yX5_isFine wsX5_isFine) := goodIn_app (goodIn_of _ (by decide +kernel)) ggX5_close_X5_isFine
theorem dX5_close_0 : decode cX5_close 0 = .ok (.aload_n 0, 1) := by decide +kernel
theorem dX5_close_1 : decode cX5_close 1 = .ok (.iload_n 1, 1) := by decide +kernel
theorem dX5_close_2 : decode cX5_close 2 = .ok (.iconst 0, 1) := by decide +kernel
theorem dX5_close_3 : decode cX5_close 3 = .ok (.ldc 60, 2) := by decide +kernel
theorem dX5_close_5 : decode cX5_close 5 = .ok (.invokestatic 61, 3) := by decide +kernel
theorem dX5_close_8 : decode cX5_close 8 = .ok (.ifCond .eq 24, 3) := by decide +kernel
theorem dX5_close_11 : decode cX5_close 11 = .ok (.iload_n 2, 1) := by decide +kernel
theorem dX5_close_12 : decode cX5_close 12 = .ok (.iconst 0, 1) := by decide +kernel
theorem dX5_close_13 : decode cX5_close 13 = .ok (.ldc 60, 2) := by decide +kernel
theorem dX5_close_15 : decode cX5_close 15 = .ok (.invokestatic 61, 3) := by decide +kernel
theorem dX5_close_18 : decode cX5_close 18 = .ok (.ifCond .eq 14, 3) := by decide +kernel
theorem dX5_close_21 : decode cX5_close 21 = .ok (.iload_n 3, 1) := by decide +kernel
theorem dX5_close_22 : decode cX5_close 22 = .ok (.ldc 65, 2) := by decide +kernel
theorem dX5_close_24 : decode cX5_close 24 = .ok (.ldc 60, 2) := by decide +kernel
theorem dX5_close_26 : decode cX5_close 26 = .ok (.invokestatic 61, 3) := by decide +kernel
theorem dX5_close_29 : decode cX5_close 29 = .ok (.ifCond .ne 7, 3) := by decide +kernel
theorem dX5_close_32 : decode cX5_close 32 = .ok (.iconst 1, 1) := by decide +kernel
theorem dX5_close_33 : decode cX5_close 33 = .ok (.goto 15, 3) := by decide +kernel
theorem dX5_close_36 : decode cX5_close 36 = .ok (.aload_n 0, 1) := by decide +kernel
theorem dX5_close_37 : decode cX5_close 37 = .ok (.getfield 66, 3) := by decide +kernel
theorem dX5_close_40 : decode cX5_close 40 = .ok (.ifCond .eq 7, 3) := by decide +kernel
theorem dX5_close_43 : decode cX5_close 43 = .ok (.iconst 2, 1) := by decide +kernel
theorem dX5_close_44 : decode cX5_close 44 = .ok (.goto 4, 3) := by decide +kernel
theorem dX5_close_47 : decode cX5_close 47 = .ok (.iconst 0, 1) := by decide +kernel
theorem dX5_close_48 : decode cX5_close 48 = .ok (.invokevirtual 70, 3) := by decide +kernel
theorem dX5_close_51 : decode cX5_close 51 = .ok (.ifCond .ne 5, 3) := by decide +kernel
theorem dX5_close_54 : decode cX5_close 54 = .ok (.iconst 0, 1) := by decide +kernel
theorem dX5_close_55 : decode cX5_close 55 = .ok (.ireturn, 1) := by decide +kernel
theorem dX5_close_56 : decode cX5_close 56 = .ok (.iload_n 3, 1) := by decide +kernel
theorem dX5_close_57 : decode cX5_close 57 = .ok (.aload_n 0, 1) := by decide +kernel
theorem dX5_close_58 : decode cX5_close 58 = .ok (.getfield 77, 3) := by decide +kernel
theorem dX5_close_61 : decode cX5_close 61 = .ok (.isub, 1) := by decide +kernel
theorem dX5_close_62 : decode cX5_close 62 = .ok (.istore 4, 2) := by decide +kernel
theorem dX5_close_64 : decode cX5_close 64 = .ok (.iload 4, 2) := by decide +kernel
theorem dX5_close_66 : decode cX5_close 66 = .ok (.aload_n 0, 1) := by decide +kernel
theorem dX5_close_67 : decode cX5_close 67 = .ok (.getfield 80, 3) := by decide +kernel
theorem dX5_close_70 : decode cX5_close 70 = .ok (.if_icmp .le 13, 3) := by decide +kernel
theorem dX5_close_73 : decode cX5_close 73 = .ok (.iload 4, 2) := by decide +kernel
theorem dX5_close_75 : decode cX5_close 75 = .ok (.aload_n 0, 1) := by decide +kernel
theorem dX5_close_76 : decode cX5_close 76 = .ok (.getfield 80, 3) := by decide +kernel
theorem dX5_close_79 : decode cX5_close 79 = .ok (.isub, 1) := by decide +kernel
theorem dX5_close_80 : decode cX5_close 80 = .ok (.goto 24, 3) := by decide +kernel
theorem dX5_close_83 : decode cX5_close 83 = .ok (.iload 4, 2) := by decide +kernel
theorem dX5_close_85 : decode cX5_close 85 = .ok (.aload_n 0, 1) := by decide +kernel
theorem dX5_close_86 : decode cX5_close 86 = .ok (.getfield 80, 3) := by decide +kernel
theorem dX5_close_89 : decode cX5_close 89 = .ok (.ineg, 1) := by decide +kernel
theorem dX5_close_90 : decode cX5_close 90 = .ok (.if_icmp .ge 13, 3) := by decide +kernel
theorem dX5_close_93 : decode cX5_close 93 = .ok (.iload 4, 2) := by decide +kernel
theorem dX5_close_95 : decode cX5_close 95 = .ok (.aload_n 0, 1) := by decide +kernel
theorem dX5_close_96 : decode cX5_close 96 = .ok (.getfield 80, 3) := by decide +kernel
theorem dX5_close_99 : decode cX5_close 99 = .ok (.iadd, 1) := by decide +kernel
theorem dX5_close_100 : decode cX5_close 100 = .ok (.goto 4, 3) := by decide +kernel
theorem dX5_close_103 : decode cX5_close 103 = .ok (.iconst 0, 1) := by decide +kernel
theorem dX5_close_104 : decode cX5_close 104 = .ok (.istore 5, 2) := by decide +kernel
theorem dX5_close_106 : decode cX5_close 106 = .ok (.aload_n 0, 1) := by decide +kernel
theorem dX5_close_107 : decode cX5_close 107 = .ok (.getfield 74, 3) := by decide +kernel
theorem dX5_close_110 : decode cX5_close 110 = .ok (.iload_n 1, 1) := by decide +kernel
theorem dX5_close_111 : decode cX5_close 111 = .ok (.iadd, 1) := by decide +kernel
theorem dX5_close_112 : decode cX5_close 112 = .ok (.iload_n 2, 1) := by decide +kernel
theorem dX5_close_113 : decode cX5_close 113 = .ok (.isub, 1) := by decide +kernel
theorem dX5_close_114 : decode cX5_close 114 = .ok (.iload 5, 2) := by decide +kernel
theorem dX5_close_116 : decode cX5_close 116 = .ok (.iadd, 1) := by decide +kernel
theorem dX5_close_117 : decode cX5_close 117 = .ok (.istore 6, 2) := by decide +kernel
theorem dX5_close_119 : decode cX5_close 119 = .ok (.aload_n 0, 1) := by decide +kernel
theorem dX5_close_120 : decode cX5_close 120 = .ok (.iload 6, 2) := by decide +kernel
theorem dX5_close_122 : decode cX5_close 122 = .ok (.ifCond .ge 7, 3) := by decide +kernel
theorem dX5_close_125 : decode cX5_close 125 = .ok (.iconst 0, 1) := by decide +kernel
theorem dX5_close_126 : decode cX5_close 126 = .ok (.goto 5, 3) := by decide +kernel
theorem dX5_close_129 : decode cX5_close 129 = .ok (.iload 6, 2) := by decide +kernel
theorem dX5_close_131 : decode cX5_close 131 = .ok (.putfield 87, 3) := by decide +kernel
theorem dX5_close_134 : decode cX5_close 134 = .ok (.iconst 0, 1) := by decide +kernel
theorem dX5_close_135 : decode cX5_close 135 = .ok (.istore 7, 2) := by decide +kernel
theorem dX5_close_137 : decode cX5_close 137 = .ok (.iconst 0, 1) := by decide +kernel
theorem dX5_close_138 : decode cX5_close 138 = .ok (.istore 8, 2) := by decide +kernel
theorem dX5_close_140 : decode cX5_close 140 = .ok (.iload 8, 2) := by decide +kernel
theorem dX5_close_142 : decode cX5_close 142 = .ok (.iconst 4, 1) := by decide +kernel
theorem dX5_close_143 : decode cX5_close 143 = .ok (.if_icmp .ge 21, 3) := by decide +kernel
theorem dX5_close_146 : decode cX5_close 146 = .ok (.iload 7, 2) := by decide +kernel
theorem dX5_close_148 : decode cX5_close 148 = .ok (.aload_n 0, 1) := by decide +kernel
theorem dX5_close_149 : decode cX5_close 149 = .ok (.getfield 7, 3) := by decide +kernel
theorem dX5_close_152 : decode cX5_close 152 = .ok (.iload 8, 2) := by decide +kernel
theorem dX5_close_154 : decode cX5_close 154 = .ok (.iaload, 1) := by decide +kernel
theorem dX5_close_155 : decode cX5_close 155 = .ok (.iadd, 1) := by decide +kernel
theorem dX5_close_156 : decode cX5_close 156 = .ok (.istore 7, 2) := by decide +kernel
theorem dX5_close_158 : decode cX5_close 158 = .ok (.iinc 8 1, 3) := by decide +kernel
theorem dX5_close_161 : decode cX5_close 161 = .ok (.goto (-21), 3) := by decide +kernel
theorem dX5_close_164 : decode cX5_close 164 = .ok (.aload_n 0, 1) := by decide +kernel
theorem dX5_close_165 : decode cX5_close 165 = .ok (.iload 7, 2) := by decide +kernel
theorem dX5_close_167 : decode cX5_close 167 = .ok (.aload_n 0, 1) := by decide +kernel
theorem dX5_close_168 : decode cX5_close 168 = .ok (.getfield 87, 3) := by decide +kernel
theorem dX5_close_171 : decode cX5_close 171 = .ok (.if_icmp .ge 8, 3) := by decide +kernel
theorem dX5_close_174 : decode cX5_close 174 = .ok (.iload 7, 2) := by decide +kernel
theorem dX5_close_176 : decode cX5_close 176 = .ok (.goto 7, 3) := by decide +kernel
theorem dX5_close_179 : decode cX5_close 179 = .ok (.aload_n 0, 1) := by decide +kernel
theorem dX5_close_180 : decode cX5_close 180 = .ok (.getfield 87, 3) := by decide +kernel
theorem dX5_close_183 : decode cX5_close 183 = .ok (.putfield 90, 3) := by decide +kernel
theorem dX5_close_186 : decode cX5_close 186 = .ok (.aload_n 0, 1) := by decide +kernel
theorem dX5_close_187 : decode cX5_close 187 = .ok (.aload_n 0, 1) := by decide +kernel
theorem dX5_close_188 : decode cX5_close 188 = .ok (.getfield 87, 3) := by decide +kernel
theorem dX5_close_191 : decode cX5_close 191 = .ok (.aload_n 0, 1) := by decide +kernel
theorem dX5_close_192 : decode cX5_close 192 = .ok (.getfield 90, 3) := by decide +kernel
theorem dX5_close_195 : decode cX5_close 195 = .ok (.isub, 1) := by decide +kernel
theorem dX5_close_196 : decode cX5_close 196 = .ok (.putfield 93, 3) := by decide +kernel
theorem dX5_close_199 : decode cX5_close 199 = .ok (.aload_n 0, 1) := by decide +kernel
theorem dX5_close_200 : decode cX5_close 200 = .ok (.iconst 1, 1) := by decide +kernel
theorem dX5_close_201 : decode cX5_close 201 = .ok (.putfield 66, 3) := by decide +kernel
theorem dX5_close_204 : decode cX5_close 204 = .ok (.aload_n 0, 1) := by decide +kernel
theorem dX5_close_205 : decode cX5_close 205 = .ok (.getfield 87, 3) := by decide +kernel
theorem dX5_close_208 : decode cX5_close 208 = .ok (.ireturn, 1) := by decide +kernel
theorem dX5_frees_0 : decode cX5_frees 0 = .ok (.iconst 0, 1) := by decide +kernel
theorem dX5_frees_1 : decode cX5_frees 1 = .ok (.istore_n 1, 1) := by decide +kernel
theorem dX5_frees_2 : decode cX5_frees 2 = .ok (.iconst 0, 1) := by decide +kernel
theorem dX5_frees_3 : decode cX5_frees 3 = .ok (.istore_n 2, 1) := by decide +kernel
theorem dX5_frees_4 : decode cX5_frees 4 = .ok (.iload_n 2, 1) := by decide +kernel
theorem dX5_frees_5 : decode cX5_frees 5 = .ok (.iconst 4, 1) := by decide +kernel
theorem dX5_frees_6 : decode cX5_frees 6 = .ok (.if_icmp .ge 35, 3) := by decide +kernel
theorem dX5_frees_9 : decode cX5_frees 9 = .ok (.iload_n 1, 1) := by decide +kernel
theorem dX5_frees_10 : decode cX5_frees 10 = .ok (.aload_n 0, 1) := by decide +kernel
theorem dX5_frees_11 : decode cX5_frees 11 = .ok (.getfield 13, 3) := by decide +kernel
theorem dX5_frees_14 : decode cX5_frees 14 = .ok (.iload_n 2, 1) := by decide +kernel
theorem dX5_frees_15 : decode cX5_frees 15 = .ok (.iaload, 1) := by decide +kernel
theorem dX5_frees_16 : decode cX5_frees 16 = .ok (.aload_n 0, 1) := by decide +kernel
theorem dX5_frees_17 : decode cX5_frees 17 = .ok (.getfield 96, 3) := by decide +kernel
theorem dX5_frees_20 : decode cX5_frees 20 = .ok (.if_icmp .le 12, 3) := by decide +kernel
theorem dX5_frees_23 : decode cX5_frees 23 = .ok (.aload_n 0, 1) := by decide +kernel
theorem dX5_frees_24 : decode cX5_frees 24 = .ok (.getfield 7, 3) := by decide +kernel
theorem dX5_frees_27 : decode cX5_frees 27 = .ok (.iload_n 2, 1) := by decide +kernel
theorem dX5_frees_28 : decode cX5_frees 28 = .ok (.iaload, 1) := by decide +kernel
theorem dX5_frees_29 : decode cX5_frees 29 = .ok (.goto 4, 3) := by decide +kernel
theorem dX5_frees_32 : decode cX5_frees 32 = .ok (.iconst 0, 1) := by decide +kernel
theorem dX5_frees_33 : decode cX5_frees 33 = .ok (.iadd, 1) := by decide +kernel
theorem dX5_frees_34 : decode cX5_frees 34 = .ok (.istore_n 1, 1) := by decide +kernel
theorem dX5_frees_35 : decode cX5_frees 35 = .ok (.iinc 2 1, 3) := by decide +kernel
theorem dX5_frees_38 : decode cX5_frees 38 = .ok (.goto (-34), 3) := by decide +kernel
theorem dX5_frees_41 : decode cX5_frees 41 = .ok (.iconst 0, 1) := by decide +kernel
theorem dX5_frees_42 : decode cX5_frees 42 = .ok (.istore_n 2, 1) := by decide +kernel
theorem dX5_frees_43 : decode cX5_frees 43 = .ok (.iload_n 2, 1) := by decide +kernel
theorem dX5_frees_44 : decode cX5_frees 44 = .ok (.aload_n 0, 1) := by decide +kernel
theorem dX5_frees_45 : decode cX5_frees 45 = .ok (.getfield 99, 3) := by decide +kernel
theorem dX5_frees_48 : decode cX5_frees 48 = .ok (.if_icmp .ge 32, 3) := by decide +kernel
theorem dX5_frees_51 : decode cX5_frees 51 = .ok (.iload_n 1, 1) := by decide +kernel
theorem dX5_frees_52 : decode cX5_frees 52 = .ok (.aload_n 0, 1) := by decide +kernel
theorem dX5_frees_53 : decode cX5_frees 53 = .ok (.getfield 47, 3) := by decide +kernel
theorem dX5_frees_56 : decode cX5_frees 56 = .ok (.iload_n 2, 1) := by decide +kernel
theorem dX5_frees_57 : decode cX5_frees 57 = .ok (.iaload, 1) := by decide +kernel
theorem dX5_frees_58 : decode cX5_frees 58 = .ok (.iconst (-1), 1) := by decide +kernel
theorem dX5_frees_59 : decode cX5_frees 59 = .ok (.if_icmp .ne 12, 3) := by decide +kernel
theorem dX5_frees_62 : decode cX5_frees 62 = .ok (.aload_n 0, 1) := by decide +kernel
theorem dX5_frees_63 : decode cX5_frees 63 = .ok (.getfield 41, 3) := by decide +kernel
theorem dX5_frees_66 : decode cX5_frees 66 = .ok (.iload_n 2, 1) := by decide +kernel
theorem dX5_frees_67 : decode cX5_frees 67 = .ok (.iaload, 1) := by decide +kernel
theorem dX5_frees_68 : decode cX5_frees 68 = .ok (.goto 4, 3) := by decide +kernel
theorem dX5_frees_71 : decode cX5_frees 71 = .ok (.iconst 0, 1) := by decide +kernel
theorem dX5_frees_72 : decode cX5_frees 72 = .ok (.iadd, 1) := by decide +kernel
theorem dX5_frees_73 : decode cX5_frees 73 = .ok (.istore_n 1, 1) := by decide +kernel
theorem dX5_frees_74 : decode cX5_frees 74 = .ok (.iinc 2 1, 3) := by decide +kernel
theorem dX5_frees_77 : decode cX5_frees 77 = .ok (.goto (-34), 3) := by decide +kernel
theorem dX5_frees_80 : decode cX5_frees 80 = .ok (.aload_n 0, 1) := by decide +kernel
theorem dX5_frees_81 : decode cX5_frees 81 = .ok (.getfield 90, 3) := by decide +kernel
theorem dX5_frees_84 : decode cX5_frees 84 = .ok (.iload_n 1, 1) := by decide +kernel
theorem dX5_frees_85 : decode cX5_frees 85 = .ok (.if_icmp .le 23, 3) := by decide +kernel
theorem dX5_frees_88 : decode cX5_frees 88 = .ok (.aload_n 0, 1) := by decide +kernel
theorem dX5_frees_89 : decode cX5_frees 89 = .ok (.dup, 1) := by decide +kernel
theorem dX5_frees_90 : decode cX5_frees 90 = .ok (.getfield 93, 3) := by decide +kernel
theorem dX5_frees_93 : decode cX5_frees 93 = .ok (.aload_n 0, 1) := by decide +kernel
theorem dX5_frees_94 : decode cX5_frees 94 = .ok (.getfield 90, 3) := by decide +kernel
theorem dX5_frees_97 : decode cX5_frees 97 = .ok (.iload_n 1, 1) := by decide +kernel
theorem dX5_frees_98 : decode cX5_frees 98 = .ok (.isub, 1) := by decide +kernel
theorem dX5_frees_99 : decode cX5_frees 99 = .ok (.iadd, 1) := by decide +kernel
theorem dX5_frees_100 : decode cX5_frees 100 = .ok (.putfield 93, 3) := by decide +kernel
theorem dX5_frees_103 : decode cX5_frees 103 = .ok (.aload_n 0, 1) := by decide +kernel
theorem dX5_frees_104 : decode cX5_frees 104 = .ok (.iload_n 1, 1) := by decide +kernel
theorem dX5_frees_105 : decode cX5_frees 105 = .ok (.putfield 90, 3) := by decide +kernel
theorem dX5_frees_108 : decode cX5_frees 108 = .ok (.return_, 1) := by decide +kernel
set_option maxRecDepth 20000 in
theorem ggX5_advance_X5_in : GoodIn wsX5_advance wsX5_in := goodIn_r _ [6] (by decide +kernel) (by decide +kernel)
set_option maxRecDepth 20000 in
theorem gX5_advance_X5_in : GoodIn wsX5_advance (va_wsS RX5 61 yX5_in wsX5_in) := goodIn_app (goodIn_of _ (by decide +kernel)) ggX5_advance_X5_in
set_option maxRecDepth 20000 in
theorem ggX5_advance_X5_isFine : GoodIn wsX5_advance wsX5_isFine := goodIn_r _ [10, 11, 23, 24, 25, 26, 27, 28, 29, 30, 31, 32, 33, 34, 35, 36, 37, 38, 39, 40, 41, 42, 43, 44, 45, 46, 47, 48, 49, 50, 51, 52, 53] (by decide +kernel) (by decide +kernel)
set_option maxRecDepth 20000 in
theorem gX5_advance_X5_isFine : GoodIn wsX5_advance (wsV RX5 70 RX5 yX5_isFine wsX5_isFine) := goodIn_app (goodIn_of _ (by decide +kernel)) ggX5_advance_X5_isFine
set_option maxRecDepth 20000 in
theorem ggX5_advance_X5_frees : GoodIn wsX5_advance wsX5_frees := goodIn_r _ [15, 16, 2, 17, 18, 19, 20, 21, 22, 23, 24, 25, 26, 27, 28, 29, 30, 31, 32, 33, 34, 35, 36, 37, 38, 39, 40, 41, 42, 43, 44, 45, 46, 47, 48, 49, 50, 51, 52, 53] (by decide +kernel) (by decide +kernel)
set_option maxRecDepth 20000 in
theorem gX5_advance_X5_frees : GoodIn wsX5_advance (wsV RX5 102 RX5 yX5_frees wsX5_frees) := goodIn_app (goodIn_of _ (by decide +kernel)) ggX5_advance_X5_frees
theorem dX5_advance_0 : decode cX5_advance 0 = .ok (.aload_n 0, 1) := by decide +kernel
theorem dX5_advance_1 : decode cX5_advance 1 = .ok (.iload_n 1, 1) := by decide +kernel
theorem dX5_advance_2 : decode cX5_advance 2 = .ok (.iconst 1, 1) := by decide +kernel
theorem dX5_advance_3 : decode cX5_advance 3 = .ok (.sipush 400, 3) := by decide +kernel
theorem dX5_advance_6 : decode cX5_advance 6 = .ok (.invokestatic 61, 3) := by decide +kernel
theorem dX5_advance_9 : decode cX5_advance 9 = .ok (.ifCond .ne 7, 3) := by decide +kernel
theorem dX5_advance_12 : decode cX5_advance 12 = .ok (.iconst 1, 1) := by decide +kernel
theorem dX5_advance_13 : decode cX5_advance 13 = .ok (.goto 27, 3) := by decide +kernel
theorem dX5_advance_16 : decode cX5_advance 16 = .ok (.aload_n 0, 1) := by decide +kernel
theorem dX5_advance_17 : decode cX5_advance 17 = .ok (.getfield 66, 3) := by decide +kernel
theorem dX5_advance_20 : decode cX5_advance 20 = .ok (.ifCond .eq 15, 3) := by decide +kernel
theorem dX5_advance_23 : decode cX5_advance 23 = .ok (.aload_n 0, 1) := by decide +kernel
theorem dX5_advance_24 : decode cX5_advance 24 = .ok (.getfield 96, 3) := by decide +kernel
theorem dX5_advance_27 : decode cX5_advance 27 = .ok (.iload_n 1, 1) := by decide +kernel
theorem dX5_advance_28 : decode cX5_advance 28 = .ok (.iadd, 1) := by decide +kernel
theorem dX5_advance_29 : decode cX5_advance 29 = .ok (.sipush 4000, 3) := by decide +kernel
theorem dX5_advance_32 : decode cX5_advance 32 = .ok (.if_icmp .le 7, 3) := by decide +kernel
theorem dX5_advance_35 : decode cX5_advance 35 = .ok (.iconst 2, 1) := by decide +kernel
theorem dX5_advance_36 : decode cX5_advance 36 = .ok (.goto 4, 3) := by decide +kernel
theorem dX5_advance_39 : decode cX5_advance 39 = .ok (.iconst 0, 1) := by decide +kernel
theorem dX5_advance_40 : decode cX5_advance 40 = .ok (.invokevirtual 70, 3) := by decide +kernel
theorem dX5_advance_43 : decode cX5_advance 43 = .ok (.ifCond .ne 5, 3) := by decide +kernel
theorem dX5_advance_46 : decode cX5_advance 46 = .ok (.iconst 0, 1) := by decide +kernel
theorem dX5_advance_47 : decode cX5_advance 47 = .ok (.ireturn, 1) := by decide +kernel
theorem dX5_advance_48 : decode cX5_advance 48 = .ok (.iconst 0, 1) := by decide +kernel
theorem dX5_advance_49 : decode cX5_advance 49 = .ok (.istore_n 2, 1) := by decide +kernel
theorem dX5_advance_50 : decode cX5_advance 50 = .ok (.iload_n 2, 1) := by decide +kernel
theorem dX5_advance_51 : decode cX5_advance 51 = .ok (.iload_n 1, 1) := by decide +kernel
theorem dX5_advance_52 : decode cX5_advance 52 = .ok (.if_icmp .ge 23, 3) := by decide +kernel
theorem dX5_advance_55 : decode cX5_advance 55 = .ok (.aload_n 0, 1) := by decide +kernel
theorem dX5_advance_56 : decode cX5_advance 56 = .ok (.dup, 1) := by decide +kernel
theorem dX5_advance_57 : decode cX5_advance 57 = .ok (.getfield 96, 3) := by decide +kernel
theorem dX5_advance_60 : decode cX5_advance 60 = .ok (.iconst 1, 1) := by decide +kernel
theorem dX5_advance_61 : decode cX5_advance 61 = .ok (.iadd, 1) := by decide +kernel
theorem dX5_advance_62 : decode cX5_advance 62 = .ok (.putfield 96, 3) := by decide +kernel
theorem dX5_advance_65 : decode cX5_advance 65 = .ok (.aload_n 0, 1) := by decide +kernel
theorem dX5_advance_66 : decode cX5_advance 66 = .ok (.invokevirtual 102, 3) := by decide +kernel
theorem dX5_advance_69 : decode cX5_advance 69 = .ok (.iinc 2 1, 3) := by decide +kernel
theorem dX5_advance_72 : decode cX5_advance 72 = .ok (.goto (-22), 3) := by decide +kernel
theorem dX5_advance_75 : decode cX5_advance 75 = .ok (.aload_n 0, 1) := by decide +kernel
theorem dX5_advance_76 : decode cX5_advance 76 = .ok (.getfield 96, 3) := by decide +kernel
theorem dX5_advance_79 : decode cX5_advance 79 = .ok (.ireturn, 1) := by decide +kernel
set_option maxRecDepth 20000 in
theorem ggX5_claim_X5_in : GoodIn wsX5_claim wsX5_in := goodIn_r _ [13] (by decide +kernel) (by decide +kernel)
set_option maxRecDepth 20000 in
theorem gX5_claim_X5_in : GoodIn wsX5_claim (va_wsS RX5 61 yX5_in wsX5_in) := goodIn_app (goodIn_of _ (by decide +kernel)) ggX5_claim_X5_in
set_option maxRecDepth 20000 in
theorem ggX5_claim_X5_isFine : GoodIn wsX5_claim wsX5_isFine := goodIn_r _ [17, 18, 19, 20, 21, 22, 23, 24, 25, 26, 27, 28, 29, 30, 31, 32, 33, 34, 35, 36, 37, 38, 39, 40, 41, 42, 43, 44, 45, 46, 47, 48, 49] (by decide +kernel) (by decide +kernel)
set_option maxRecDepth 20000 in
theorem gX5_claim_X5_isFine : GoodIn wsX5_claim (wsV RX5 70 RX5 yX5_isFine wsX5_isFine) := goodIn_app (goodIn_of _ (by decide +kernel)) ggX5_claim_X5_isFine
theorem dX5_claim_0 : decode cX5_claim 0 = .ok (.iload_n 1, 1) := by decide +kernel
theorem dX5_claim_1 : decode cX5_claim 1 = .ok (.iconst 0, 1) := by decide +kernel
theorem dX5_claim_2 : decode cX5_claim 2 = .ok (.iconst 2, 1) := by decide +kernel
theorem dX5_claim_3 : decode cX5_claim 3 = .ok (.invokestatic 61, 3) := by decide +kernel
theorem dX5_claim_6 : decode cX5_claim 6 = .ok (.ifCond .ne 7, 3) := by decide +kernel
theorem dX5_claim_9 : decode cX5_claim 9 = .ok (.iconst 1, 1) := by decide +kernel
theorem dX5_claim_10 : decode cX5_claim 10 = .ok (.goto 18, 3) := by decide +kernel
theorem dX5_claim_13 : decode cX5_claim 13 = .ok (.iload_n 2, 1) := by decide +kernel
theorem dX5_claim_14 : decode cX5_claim 14 = .ok (.iconst 1, 1) := by decide +kernel
theorem dX5_claim_15 : decode cX5_claim 15 = .ok (.ldc 60, 2) := by decide +kernel
theorem dX5_claim_17 : decode cX5_claim 17 = .ok (.invokestatic 61, 3) := by decide +kernel
theorem dX5_claim_20 : decode cX5_claim 20 = .ok (.ifCond .ne 7, 3) := by decide +kernel
theorem dX5_claim_23 : decode cX5_claim 23 = .ok (.iconst 2, 1) := by decide +kernel
theorem dX5_claim_24 : decode cX5_claim 24 = .ok (.goto 4, 3) := by decide +kernel
theorem dX5_claim_27 : decode cX5_claim 27 = .ok (.iconst 0, 1) := by decide +kernel
theorem dX5_claim_28 : decode cX5_claim 28 = .ok (.istore_n 3, 1) := by decide +kernel
theorem dX5_claim_29 : decode cX5_claim 29 = .ok (.aload_n 0, 1) := by decide +kernel
theorem dX5_claim_30 : decode cX5_claim 30 = .ok (.iload_n 3, 1) := by decide +kernel
theorem dX5_claim_31 : decode cX5_claim 31 = .ok (.ifCond .ne 36, 3) := by decide +kernel
theorem dX5_claim_34 : decode cX5_claim 34 = .ok (.aload_n 0, 1) := by decide +kernel
theorem dX5_claim_35 : decode cX5_claim 35 = .ok (.getfield 66, 3) := by decide +kernel
theorem dX5_claim_38 : decode cX5_claim 38 = .ok (.ifCond .eq 25, 3) := by decide +kernel
theorem dX5_claim_41 : decode cX5_claim 41 = .ok (.aload_n 0, 1) := by decide +kernel
theorem dX5_claim_42 : decode cX5_claim 42 = .ok (.getfield 96, 3) := by decide +kernel
theorem dX5_claim_45 : decode cX5_claim 45 = .ok (.aload_n 0, 1) := by decide +kernel
theorem dX5_claim_46 : decode cX5_claim 46 = .ok (.getfield 29, 3) := by decide +kernel
theorem dX5_claim_49 : decode cX5_claim 49 = .ok (.iload_n 1, 1) := by decide +kernel
theorem dX5_claim_50 : decode cX5_claim 50 = .ok (.iaload, 1) := by decide +kernel
theorem dX5_claim_51 : decode cX5_claim 51 = .ok (.if_icmp .gt 12, 3) := by decide +kernel
theorem dX5_claim_54 : decode cX5_claim 54 = .ok (.aload_n 0, 1) := by decide +kernel
theorem dX5_claim_55 : decode cX5_claim 55 = .ok (.getfield 99, 3) := by decide +kernel
theorem dX5_claim_58 : decode cX5_claim 58 = .ok (.bipush 20, 2) := by decide +kernel
theorem dX5_claim_60 : decode cX5_claim 60 = .ok (.if_icmp .ne 7, 3) := by decide +kernel
theorem dX5_claim_63 : decode cX5_claim 63 = .ok (.iconst 3, 1) := by decide +kernel
theorem dX5_claim_64 : decode cX5_claim 64 = .ok (.goto 4, 3) := by decide +kernel
theorem dX5_claim_67 : decode cX5_claim 67 = .ok (.iload_n 3, 1) := by decide +kernel
theorem dX5_claim_68 : decode cX5_claim 68 = .ok (.invokevirtual 70, 3) := by decide +kernel
theorem dX5_claim_71 : decode cX5_claim 71 = .ok (.ifCond .ne 5, 3) := by decide +kernel
theorem dX5_claim_74 : decode cX5_claim 74 = .ok (.iconst 0, 1) := by decide +kernel
theorem dX5_claim_75 : decode cX5_claim 75 = .ok (.ireturn, 1) := by decide +kernel
theorem dX5_claim_76 : decode cX5_claim 76 = .ok (.aload_n 0, 1) := by decide +kernel
theorem dX5_claim_77 : decode cX5_claim 77 = .ok (.getfield 38, 3) := by decide +kernel
theorem dX5_claim_80 : decode cX5_claim 80 = .ok (.aload_n 0, 1) := by decide +kernel
theorem dX5_claim_81 : decode cX5_claim 81 = .ok (.getfield 99, 3) := by decide +kernel
theorem dX5_claim_84 : decode cX5_claim 84 = .ok (.iload_n 1, 1) := by decide +kernel
theorem dX5_claim_85 : decode cX5_claim 85 = .ok (.iastore, 1) := by decide +kernel
theorem dX5_claim_86 : decode cX5_claim 86 = .ok (.aload_n 0, 1) := by decide +kernel
theorem dX5_claim_87 : decode cX5_claim 87 = .ok (.getfield 41, 3) := by decide +kernel
theorem dX5_claim_90 : decode cX5_claim 90 = .ok (.aload_n 0, 1) := by decide +kernel
theorem dX5_claim_91 : decode cX5_claim 91 = .ok (.getfield 99, 3) := by decide +kernel
theorem dX5_claim_94 : decode cX5_claim 94 = .ok (.iload_n 2, 1) := by decide +kernel
theorem dX5_claim_95 : decode cX5_claim 95 = .ok (.iastore, 1) := by decide +kernel
theorem dX5_claim_96 : decode cX5_claim 96 = .ok (.aload_n 0, 1) := by decide +kernel
theorem dX5_claim_97 : decode cX5_claim 97 = .ok (.getfield 44, 3) := by decide +kernel
theorem dX5_claim_100 : decode cX5_claim 100 = .ok (.aload_n 0, 1) := by decide +kernel
theorem dX5_claim_101 : decode cX5_claim 101 = .ok (.getfield 99, 3) := by decide +kernel
theorem dX5_claim_104 : decode cX5_claim 104 = .ok (.iconst (-1), 1) := by decide +kernel
theorem dX5_claim_105 : decode cX5_claim 105 = .ok (.iastore, 1) := by decide +kernel
theorem dX5_claim_106 : decode cX5_claim 106 = .ok (.aload_n 0, 1) := by decide +kernel
theorem dX5_claim_107 : decode cX5_claim 107 = .ok (.getfield 47, 3) := by decide +kernel
theorem dX5_claim_110 : decode cX5_claim 110 = .ok (.aload_n 0, 1) := by decide +kernel
theorem dX5_claim_111 : decode cX5_claim 111 = .ok (.getfield 99, 3) := by decide +kernel
theorem dX5_claim_114 : decode cX5_claim 114 = .ok (.iconst (-1), 1) := by decide +kernel
theorem dX5_claim_115 : decode cX5_claim 115 = .ok (.iastore, 1) := by decide +kernel
theorem dX5_claim_116 : decode cX5_claim 116 = .ok (.aload_n 0, 1) := by decide +kernel
theorem dX5_claim_117 : decode cX5_claim 117 = .ok (.dup, 1) := by decide +kernel
theorem dX5_claim_118 : decode cX5_claim 118 = .ok (.getfield 99, 3) := by decide +kernel
theorem dX5_claim_121 : decode cX5_claim 121 = .ok (.iconst 1, 1) := by decide +kernel
theorem dX5_claim_122 : decode cX5_claim 122 = .ok (.iadd, 1) := by decide +kernel
theorem dX5_claim_123 : decode cX5_claim 123 = .ok (.putfield 99, 3) := by decide +kernel
theorem dX5_claim_126 : decode cX5_claim 126 = .ok (.aload_n 0, 1) := by decide +kernel
theorem dX5_claim_127 : decode cX5_claim 127 = .ok (.getfield 99, 3) := by decide +kernel
theorem dX5_claim_130 : decode cX5_claim 130 = .ok (.iconst 1, 1) := by decide +kernel
theorem dX5_claim_131 : decode cX5_claim 131 = .ok (.isub, 1) := by decide +kernel
theorem dX5_claim_132 : decode cX5_claim 132 = .ok (.ireturn, 1) := by decide +kernel
set_option maxRecDepth 20000 in
theorem ggX5_isClaim_X5_in : GoodIn wsX5_isClaim wsX5_in := goodIn_r _ [5] (by decide +kernel) (by decide +kernel)
set_option maxRecDepth 20000 in
theorem gX5_isClaim_X5_in : GoodIn wsX5_isClaim (va_wsS RX5 61 yX5_in wsX5_in) := goodIn_app (goodIn_of _ (by decide +kernel)) ggX5_isClaim_X5_in
theorem dX5_isClaim_0 : decode cX5_isClaim 0 = .ok (.iload_n 1, 1) := by decide +kernel
theorem dX5_isClaim_1 : decode cX5_isClaim 1 = .ok (.iconst 0, 1) := by decide +kernel
theorem dX5_isClaim_2 : decode cX5_isClaim 2 = .ok (.aload_n 0, 1) := by decide +kernel
theorem dX5_isClaim_3 : decode cX5_isClaim 3 = .ok (.getfield 99, 3) := by decide +kernel
theorem dX5_isClaim_6 : decode cX5_isClaim 6 = .ok (.iconst 1, 1) := by decide +kernel
theorem dX5_isClaim_7 : decode cX5_isClaim 7 = .ok (.isub, 1) := by decide +kernel
theorem dX5_isClaim_8 : decode cX5_isClaim 8 = .ok (.invokestatic 61, 3) := by decide +kernel
theorem dX5_isClaim_11 : decode cX5_isClaim 11 = .ok (.ireturn, 1) := by decide +kernel
set_option maxRecDepth 20000 in
theorem ggX5_offer_X5_isClaim : GoodIn wsX5_offer wsX5_isClaim := goodIn_r _ [8, 9, 10, 11, 7, 12, 18, 19, 20, 21, 22, 23, 24, 25, 26, 27, 28, 29, 30, 31, 32, 33, 34, 35, 36, 37, 38, 39, 40, 41, 42, 43, 44, 45, 46, 47, 48] (by decide +kernel) (by decide +kernel)
set_option maxRecDepth 20000 in
theorem gX5_offer_X5_isClaim : GoodIn wsX5_offer (wsV RX5 105 RX5 yX5_isClaim wsX5_isClaim) := goodIn_app (goodIn_of _ (by decide +kernel)) ggX5_offer_X5_isClaim
set_option maxRecDepth 20000 in
theorem ggX5_offer_X5_in : GoodIn wsX5_offer wsX5_in := goodIn_r _ [12] (by decide +kernel) (by decide +kernel)
set_option maxRecDepth 20000 in
theorem gX5_offer_X5_in : GoodIn wsX5_offer (va_wsS RX5 61 yX5_in wsX5_in) := goodIn_app (goodIn_of _ (by decide +kernel)) ggX5_offer_X5_in
set_option maxRecDepth 20000 in
theorem ggX5_offer_X5_isFine : GoodIn wsX5_offer wsX5_isFine := goodIn_r _ [16, 17, 18, 19, 20, 21, 22, 23, 24, 25, 26, 27, 28, 29, 30, 31, 32, 33, 34, 35, 36, 37, 38, 39, 40, 41, 42, 43, 44, 45, 46, 47, 48] (by decide +kernel) (by decide +kernel)
set_option maxRecDepth 20000 in
theorem gX5_offer_X5_isFine : GoodIn wsX5_offer (wsV RX5 70 RX5 yX5_isFine wsX5_isFine) := goodIn_app (goodIn_of _ (by decide +kernel)) ggX5_offer_X5_isFine
theorem dX5_offer_0 : decode cX5_offer 0 = .ok (.aload_n 0, 1) := by decide +kernel
theorem dX5_offer_1 : decode cX5_offer 1 = .ok (.iload_n 1, 1) := by decide +kernel
theorem dX5_offer_2 : decode cX5_offer 2 = .ok (.invokevirtual 105, 3) := by decide +kernel
theorem dX5_offer_5 : decode cX5_offer 5 = .ok (.ifCond .ne 7, 3) := by decide +kernel
theorem dX5_offer_8 : decode cX5_offer 8 = .ok (.iconst 1, 1) := by decide +kernel
theorem dX5_offer_9 : decode cX5_offer 9 = .ok (.goto 36, 3) := by decide +kernel
theorem dX5_offer_12 : decode cX5_offer 12 = .ok (.aload_n 0, 1) := by decide +kernel
theorem dX5_offer_13 : decode cX5_offer 13 = .ok (.getfield 47, 3) := by decide +kernel
theorem dX5_offer_16 : decode cX5_offer 16 = .ok (.iload_n 1, 1) := by decide +kernel
theorem dX5_offer_17 : decode cX5_offer 17 = .ok (.iaload, 1) := by decide +kernel
theorem dX5_offer_18 : decode cX5_offer 18 = .ok (.iconst (-1), 1) := by decide +kernel
theorem dX5_offer_19 : decode cX5_offer 19 = .ok (.if_icmp .eq 7, 3) := by decide +kernel
theorem dX5_offer_22 : decode cX5_offer 22 = .ok (.iconst 2, 1) := by decide +kernel
theorem dX5_offer_23 : decode cX5_offer 23 = .ok (.goto 22, 3) := by decide +kernel
theorem dX5_offer_26 : decode cX5_offer 26 = .ok (.iload_n 2, 1) := by decide +kernel
theorem dX5_offer_27 : decode cX5_offer 27 = .ok (.iconst 0, 1) := by decide +kernel
theorem dX5_offer_28 : decode cX5_offer 28 = .ok (.aload_n 0, 1) := by decide +kernel
theorem dX5_offer_29 : decode cX5_offer 29 = .ok (.getfield 41, 3) := by decide +kernel
theorem dX5_offer_32 : decode cX5_offer 32 = .ok (.iload_n 1, 1) := by decide +kernel
theorem dX5_offer_33 : decode cX5_offer 33 = .ok (.iaload, 1) := by decide +kernel
theorem dX5_offer_34 : decode cX5_offer 34 = .ok (.invokestatic 61, 3) := by decide +kernel
theorem dX5_offer_37 : decode cX5_offer 37 = .ok (.ifCond .ne 7, 3) := by decide +kernel
theorem dX5_offer_40 : decode cX5_offer 40 = .ok (.iconst 3, 1) := by decide +kernel
theorem dX5_offer_41 : decode cX5_offer 41 = .ok (.goto 4, 3) := by decide +kernel
theorem dX5_offer_44 : decode cX5_offer 44 = .ok (.iconst 0, 1) := by decide +kernel
theorem dX5_offer_45 : decode cX5_offer 45 = .ok (.istore_n 3, 1) := by decide +kernel
theorem dX5_offer_46 : decode cX5_offer 46 = .ok (.aload_n 0, 1) := by decide +kernel
theorem dX5_offer_47 : decode cX5_offer 47 = .ok (.iload_n 3, 1) := by decide +kernel
theorem dX5_offer_48 : decode cX5_offer 48 = .ok (.invokevirtual 70, 3) := by decide +kernel
theorem dX5_offer_51 : decode cX5_offer 51 = .ok (.ifCond .ne 5, 3) := by decide +kernel
theorem dX5_offer_54 : decode cX5_offer 54 = .ok (.iconst 0, 1) := by decide +kernel
theorem dX5_offer_55 : decode cX5_offer 55 = .ok (.ireturn, 1) := by decide +kernel
theorem dX5_offer_56 : decode cX5_offer 56 = .ok (.aload_n 0, 1) := by decide +kernel
theorem dX5_offer_57 : decode cX5_offer 57 = .ok (.getfield 44, 3) := by decide +kernel
theorem dX5_offer_60 : decode cX5_offer 60 = .ok (.iload_n 1, 1) := by decide +kernel
theorem dX5_offer_61 : decode cX5_offer 61 = .ok (.iaload, 1) := by decide +kernel
theorem dX5_offer_62 : decode cX5_offer 62 = .ok (.istore 4, 2) := by decide +kernel
theorem dX5_offer_64 : decode cX5_offer 64 = .ok (.aload_n 0, 1) := by decide +kernel
theorem dX5_offer_65 : decode cX5_offer 65 = .ok (.getfield 44, 3) := by decide +kernel
theorem dX5_offer_68 : decode cX5_offer 68 = .ok (.iload_n 1, 1) := by decide +kernel
theorem dX5_offer_69 : decode cX5_offer 69 = .ok (.iload_n 2, 1) := by decide +kernel
theorem dX5_offer_70 : decode cX5_offer 70 = .ok (.iastore, 1) := by decide +kernel
theorem dX5_offer_71 : decode cX5_offer 71 = .ok (.iload 4, 2) := by decide +kernel
theorem dX5_offer_73 : decode cX5_offer 73 = .ok (.ireturn, 1) := by decide +kernel
theorem dX5_dueFor_0 : decode cX5_dueFor 0 = .ok (.iconst 0, 1) := by decide +kernel
theorem dX5_dueFor_1 : decode cX5_dueFor 1 = .ok (.istore_n 2, 1) := by decide +kernel
theorem dX5_dueFor_2 : decode cX5_dueFor 2 = .ok (.iconst 0, 1) := by decide +kernel
theorem dX5_dueFor_3 : decode cX5_dueFor 3 = .ok (.istore_n 3, 1) := by decide +kernel
theorem dX5_dueFor_4 : decode cX5_dueFor 4 = .ok (.iload_n 3, 1) := by decide +kernel
theorem dX5_dueFor_5 : decode cX5_dueFor 5 = .ok (.aload_n 0, 1) := by decide +kernel
theorem dX5_dueFor_6 : decode cX5_dueFor 6 = .ok (.getfield 99, 3) := by decide +kernel
theorem dX5_dueFor_9 : decode cX5_dueFor 9 = .ok (.if_icmp .ge 57, 3) := by decide +kernel
theorem dX5_dueFor_12 : decode cX5_dueFor 12 = .ok (.iload_n 2, 1) := by decide +kernel
theorem dX5_dueFor_13 : decode cX5_dueFor 13 = .ok (.aload_n 0, 1) := by decide +kernel
theorem dX5_dueFor_14 : decode cX5_dueFor 14 = .ok (.getfield 38, 3) := by decide +kernel
theorem dX5_dueFor_17 : decode cX5_dueFor 17 = .ok (.iload_n 3, 1) := by decide +kernel
theorem dX5_dueFor_18 : decode cX5_dueFor 18 = .ok (.iaload, 1) := by decide +kernel
theorem dX5_dueFor_19 : decode cX5_dueFor 19 = .ok (.iload_n 1, 1) := by decide +kernel
theorem dX5_dueFor_20 : decode cX5_dueFor 20 = .ok (.if_icmp .ne 37, 3) := by decide +kernel
theorem dX5_dueFor_23 : decode cX5_dueFor 23 = .ok (.aload_n 0, 1) := by decide +kernel
theorem dX5_dueFor_24 : decode cX5_dueFor 24 = .ok (.getfield 47, 3) := by decide +kernel
theorem dX5_dueFor_27 : decode cX5_dueFor 27 = .ok (.iload_n 3, 1) := by decide +kernel
theorem dX5_dueFor_28 : decode cX5_dueFor 28 = .ok (.iaload, 1) := by decide +kernel
theorem dX5_dueFor_29 : decode cX5_dueFor 29 = .ok (.iconst (-1), 1) := by decide +kernel
theorem dX5_dueFor_30 : decode cX5_dueFor 30 = .ok (.if_icmp .eq 27, 3) := by decide +kernel
theorem dX5_dueFor_33 : decode cX5_dueFor 33 = .ok (.aload_n 0, 1) := by decide +kernel
theorem dX5_dueFor_34 : decode cX5_dueFor 34 = .ok (.getfield 47, 3) := by decide +kernel
theorem dX5_dueFor_37 : decode cX5_dueFor 37 = .ok (.iload_n 3, 1) := by decide +kernel
theorem dX5_dueFor_38 : decode cX5_dueFor 38 = .ok (.iaload, 1) := by decide +kernel
theorem dX5_dueFor_39 : decode cX5_dueFor 39 = .ok (.aload_n 0, 1) := by decide +kernel
theorem dX5_dueFor_40 : decode cX5_dueFor 40 = .ok (.getfield 16, 3) := by decide +kernel
theorem dX5_dueFor_43 : decode cX5_dueFor 43 = .ok (.iload_n 1, 1) := by decide +kernel
theorem dX5_dueFor_44 : decode cX5_dueFor 44 = .ok (.iaload, 1) := by decide +kernel
theorem dX5_dueFor_45 : decode cX5_dueFor 45 = .ok (.if_icmp .lt 12, 3) := by decide +kernel
theorem dX5_dueFor_48 : decode cX5_dueFor 48 = .ok (.aload_n 0, 1) := by decide +kernel
theorem dX5_dueFor_49 : decode cX5_dueFor 49 = .ok (.getfield 47, 3) := by decide +kernel
theorem dX5_dueFor_52 : decode cX5_dueFor 52 = .ok (.iload_n 3, 1) := by decide +kernel
theorem dX5_dueFor_53 : decode cX5_dueFor 53 = .ok (.iaload, 1) := by decide +kernel
theorem dX5_dueFor_54 : decode cX5_dueFor 54 = .ok (.goto 4, 3) := by decide +kernel
theorem dX5_dueFor_57 : decode cX5_dueFor 57 = .ok (.iconst 0, 1) := by decide +kernel
theorem dX5_dueFor_58 : decode cX5_dueFor 58 = .ok (.iadd, 1) := by decide +kernel
theorem dX5_dueFor_59 : decode cX5_dueFor 59 = .ok (.istore_n 2, 1) := by decide +kernel
theorem dX5_dueFor_60 : decode cX5_dueFor 60 = .ok (.iinc 3 1, 3) := by decide +kernel
theorem dX5_dueFor_63 : decode cX5_dueFor 63 = .ok (.goto (-59), 3) := by decide +kernel
theorem dX5_dueFor_66 : decode cX5_dueFor 66 = .ok (.aload_n 0, 1) := by decide +kernel
theorem dX5_dueFor_67 : decode cX5_dueFor 67 = .ok (.getfield 22, 3) := by decide +kernel
theorem dX5_dueFor_70 : decode cX5_dueFor 70 = .ok (.iload_n 1, 1) := by decide +kernel
theorem dX5_dueFor_71 : decode cX5_dueFor 71 = .ok (.baload, 1) := by decide +kernel
theorem dX5_dueFor_72 : decode cX5_dueFor 72 = .ok (.ifCond .eq 21, 3) := by decide +kernel
theorem dX5_dueFor_75 : decode cX5_dueFor 75 = .ok (.iload_n 2, 1) := by decide +kernel
theorem dX5_dueFor_76 : decode cX5_dueFor 76 = .ok (.aload_n 0, 1) := by decide +kernel
theorem dX5_dueFor_77 : decode cX5_dueFor 77 = .ok (.getfield 19, 3) := by decide +kernel
theorem dX5_dueFor_80 : decode cX5_dueFor 80 = .ok (.iload_n 1, 1) := by decide +kernel
theorem dX5_dueFor_81 : decode cX5_dueFor 81 = .ok (.iaload, 1) := by decide +kernel
theorem dX5_dueFor_82 : decode cX5_dueFor 82 = .ok (.if_icmp .lt 7, 3) := by decide +kernel
theorem dX5_dueFor_85 : decode cX5_dueFor 85 = .ok (.iload_n 2, 1) := by decide +kernel
theorem dX5_dueFor_86 : decode cX5_dueFor 86 = .ok (.goto 29, 3) := by decide +kernel
theorem dX5_dueFor_89 : decode cX5_dueFor 89 = .ok (.iconst 0, 1) := by decide +kernel
theorem dX5_dueFor_90 : decode cX5_dueFor 90 = .ok (.goto 25, 3) := by decide +kernel
theorem dX5_dueFor_93 : decode cX5_dueFor 93 = .ok (.iload_n 2, 1) := by decide +kernel
theorem dX5_dueFor_94 : decode cX5_dueFor 94 = .ok (.aload_n 0, 1) := by decide +kernel
theorem dX5_dueFor_95 : decode cX5_dueFor 95 = .ok (.getfield 19, 3) := by decide +kernel
theorem dX5_dueFor_98 : decode cX5_dueFor 98 = .ok (.iload_n 1, 1) := by decide +kernel
theorem dX5_dueFor_99 : decode cX5_dueFor 99 = .ok (.iaload, 1) := by decide +kernel
theorem dX5_dueFor_100 : decode cX5_dueFor 100 = .ok (.if_icmp .le 14, 3) := by decide +kernel
theorem dX5_dueFor_103 : decode cX5_dueFor 103 = .ok (.iload_n 2, 1) := by decide +kernel
theorem dX5_dueFor_104 : decode cX5_dueFor 104 = .ok (.aload_n 0, 1) := by decide +kernel
theorem dX5_dueFor_105 : decode cX5_dueFor 105 = .ok (.getfield 19, 3) := by decide +kernel
theorem dX5_dueFor_108 : decode cX5_dueFor 108 = .ok (.iload_n 1, 1) := by decide +kernel
theorem dX5_dueFor_109 : decode cX5_dueFor 109 = .ok (.iaload, 1) := by decide +kernel
theorem dX5_dueFor_110 : decode cX5_dueFor 110 = .ok (.isub, 1) := by decide +kernel
theorem dX5_dueFor_111 : decode cX5_dueFor 111 = .ok (.goto 4, 3) := by decide +kernel
theorem dX5_dueFor_114 : decode cX5_dueFor 114 = .ok (.iconst 0, 1) := by decide +kernel
theorem dX5_dueFor_115 : decode cX5_dueFor 115 = .ok (.istore_n 3, 1) := by decide +kernel
theorem dX5_dueFor_116 : decode cX5_dueFor 116 = .ok (.iload_n 3, 1) := by decide +kernel
theorem dX5_dueFor_117 : decode cX5_dueFor 117 = .ok (.aload_n 0, 1) := by decide +kernel
theorem dX5_dueFor_118 : decode cX5_dueFor 118 = .ok (.getfield 26, 3) := by decide +kernel
theorem dX5_dueFor_121 : decode cX5_dueFor 121 = .ok (.iload_n 1, 1) := by decide +kernel
theorem dX5_dueFor_122 : decode cX5_dueFor 122 = .ok (.iaload, 1) := by decide +kernel
theorem dX5_dueFor_123 : decode cX5_dueFor 123 = .ok (.if_icmp .ge 7, 3) := by decide +kernel
theorem dX5_dueFor_126 : decode cX5_dueFor 126 = .ok (.iload_n 3, 1) := by decide +kernel
theorem dX5_dueFor_127 : decode cX5_dueFor 127 = .ok (.goto 9, 3) := by decide +kernel
theorem dX5_dueFor_130 : decode cX5_dueFor 130 = .ok (.aload_n 0, 1) := by decide +kernel
theorem dX5_dueFor_131 : decode cX5_dueFor 131 = .ok (.getfield 26, 3) := by decide +kernel
theorem dX5_dueFor_134 : decode cX5_dueFor 134 = .ok (.iload_n 1, 1) := by decide +kernel
theorem dX5_dueFor_135 : decode cX5_dueFor 135 = .ok (.iaload, 1) := by decide +kernel
theorem dX5_dueFor_136 : decode cX5_dueFor 136 = .ok (.ireturn, 1) := by decide +kernel
set_option maxRecDepth 20000 in
theorem ggX5_dueAll_X5_dueFor : GoodIn wsX5_dueAll wsX5_dueFor := goodIn_r _ [5, 6, 7, 8, 9, 10, 11, 12, 13, 14, 15, 16, 17, 18, 19, 20, 21, 22, 23, 24, 25, 26, 27, 28, 29, 30, 31, 32, 33, 34, 35, 36, 37, 38, 39, 40, 41, 42, 43] (by decide +kernel) (by decide +kernel)
set_option maxRecDepth 20000 in
theorem gX5_dueAll_X5_dueFor : GoodIn wsX5_dueAll (wsV RX5 108 RX5 yX5_dueFor wsX5_dueFor) := goodIn_app (goodIn_of _ (by decide +kernel)) ggX5_dueAll_X5_dueFor
theorem dX5_dueAll_0 : decode cX5_dueAll 0 = .ok (.aload_n 0, 1) := by decide +kernel
theorem dX5_dueAll_1 : decode cX5_dueAll 1 = .ok (.iconst 0, 1) := by decide +kernel
theorem dX5_dueAll_2 : decode cX5_dueAll 2 = .ok (.invokevirtual 108, 3) := by decide +kernel
theorem dX5_dueAll_5 : decode cX5_dueAll 5 = .ok (.aload_n 0, 1) := by decide +kernel
theorem dX5_dueAll_6 : decode cX5_dueAll 6 = .ok (.iconst 1, 1) := by decide +kernel
theorem dX5_dueAll_7 : decode cX5_dueAll 7 = .ok (.invokevirtual 108, 3) := by decide +kernel
theorem dX5_dueAll_10 : decode cX5_dueAll 10 = .ok (.iadd, 1) := by decide +kernel
theorem dX5_dueAll_11 : decode cX5_dueAll 11 = .ok (.aload_n 0, 1) := by decide +kernel
theorem dX5_dueAll_12 : decode cX5_dueAll 12 = .ok (.iconst 2, 1) := by decide +kernel
theorem dX5_dueAll_13 : decode cX5_dueAll 13 = .ok (.invokevirtual 108, 3) := by decide +kernel
theorem dX5_dueAll_16 : decode cX5_dueAll 16 = .ok (.iadd, 1) := by decide +kernel
theorem dX5_dueAll_17 : decode cX5_dueAll 17 = .ok (.ireturn, 1) := by decide +kernel
set_option maxRecDepth 20000 in
theorem ggX5_open_X5_dueAll : GoodIn wsX5_open wsX5_dueAll := goodIn_r _ [7, 8, 9, 10, 6, 11, 12, 13, 14, 15, 16, 17, 18, 19, 20, 21, 22, 23, 24, 25, 26, 27, 28, 29, 30, 31, 32, 33, 34, 35, 36, 37, 38, 39, 40, 41, 42, 43, 44, 45, 46, 47, 48, 49] (by decide +kernel) (by decide +kernel)
set_option maxRecDepth 20000 in
theorem gX5_open_X5_dueAll : GoodIn wsX5_open (wsV RX5 112 RX5 yX5_dueAll wsX5_dueAll) := goodIn_app (goodIn_of _ (by decide +kernel)) ggX5_open_X5_dueAll
theorem dX5_open_0 : decode cX5_open 0 = .ok (.aload_n 0, 1) := by decide +kernel
theorem dX5_open_1 : decode cX5_open 1 = .ok (.invokevirtual 112, 3) := by decide +kernel
theorem dX5_open_4 : decode cX5_open 4 = .ok (.aload_n 0, 1) := by decide +kernel
theorem dX5_open_5 : decode cX5_open 5 = .ok (.getfield 116, 3) := by decide +kernel
theorem dX5_open_8 : decode cX5_open 8 = .ok (.isub, 1) := by decide +kernel
theorem dX5_open_9 : decode cX5_open 9 = .ok (.aload_n 0, 1) := by decide +kernel
theorem dX5_open_10 : decode cX5_open 10 = .ok (.getfield 119, 3) := by decide +kernel
theorem dX5_open_13 : decode cX5_open 13 = .ok (.isub, 1) := by decide +kernel
theorem dX5_open_14 : decode cX5_open 14 = .ok (.ireturn, 1) := by decide +kernel
set_option maxRecDepth 20000 in
theorem ggX5_settles_X5_open : GoodIn wsX5_settles wsX5_open := goodIn_r _ [8, 3, 9, 10, 11, 12, 7, 13, 14, 15, 16, 17, 18, 19, 1, 20, 21, 22, 23, 33, 34, 35, 36, 37, 38, 39, 40, 41, 42, 43, 44, 45, 46, 47, 48, 49, 50, 51, 52, 53, 54, 55, 56, 57, 58, 59, 60, 61, 62, 63] (by decide +kernel) (by decide +kernel)
set_option maxRecDepth 20000 in
theorem gX5_settles_X5_open : GoodIn wsX5_settles (wsV RX5 122 RX5 yX5_open wsX5_open) := goodIn_app (goodIn_of _ (by decide +kernel)) ggX5_settles_X5_open
set_option maxRecDepth 20000 in
theorem ggX5_settles_X5_frees : GoodIn wsX5_settles wsX5_frees := goodIn_r _ [27, 28, 29, 30, 18, 1, 31, 2, 32, 33, 34, 35, 36, 37, 38, 39, 40, 41, 42, 43, 44, 45, 46, 47, 48, 49, 50, 51, 52, 53, 54, 55, 56, 57, 58, 59, 60, 61, 62, 63] (by decide +kernel) (by decide +kernel)
set_option maxRecDepth 20000 in
theorem gX5_settles_X5_frees : GoodIn wsX5_settles (wsV RX5 102 RX5 yX5_frees wsX5_frees) := goodIn_app (goodIn_of _ (by decide +kernel)) ggX5_settles_X5_frees
theorem dX5_settles_0 : decode cX5_settles 0 = .ok (.aload_n 0, 1) := by decide +kernel
theorem dX5_settles_1 : decode cX5_settles 1 = .ok (.getfield 47, 3) := by decide +kernel
theorem dX5_settles_4 : decode cX5_settles 4 = .ok (.iload_n 1, 1) := by decide +kernel
theorem dX5_settles_5 : decode cX5_settles 5 = .ok (.iload_n 2, 1) := by decide +kernel
theorem dX5_settles_6 : decode cX5_settles 6 = .ok (.iastore, 1) := by decide +kernel
theorem dX5_settles_7 : decode cX5_settles 7 = .ok (.aload_n 0, 1) := by decide +kernel
theorem dX5_settles_8 : decode cX5_settles 8 = .ok (.invokevirtual 122, 3) := by decide +kernel
theorem dX5_settles_11 : decode cX5_settles 11 = .ok (.aload_n 0, 1) := by decide +kernel
theorem dX5_settles_12 : decode cX5_settles 12 = .ok (.getfield 90, 3) := by decide +kernel
theorem dX5_settles_15 : decode cX5_settles 15 = .ok (.if_icmp .ge 10, 3) := by decide +kernel
theorem dX5_settles_18 : decode cX5_settles 18 = .ok (.aload_n 0, 1) := by decide +kernel
theorem dX5_settles_19 : decode cX5_settles 19 = .ok (.invokevirtual 122, 3) := by decide +kernel
theorem dX5_settles_22 : decode cX5_settles 22 = .ok (.goto 7, 3) := by decide +kernel
theorem dX5_settles_25 : decode cX5_settles 25 = .ok (.aload_n 0, 1) := by decide +kernel
theorem dX5_settles_26 : decode cX5_settles 26 = .ok (.getfield 90, 3) := by decide +kernel
theorem dX5_settles_29 : decode cX5_settles 29 = .ok (.istore_n 3, 1) := by decide +kernel
theorem dX5_settles_30 : decode cX5_settles 30 = .ok (.aload_n 0, 1) := by decide +kernel
theorem dX5_settles_31 : decode cX5_settles 31 = .ok (.dup, 1) := by decide +kernel
theorem dX5_settles_32 : decode cX5_settles 32 = .ok (.getfield 90, 3) := by decide +kernel
theorem dX5_settles_35 : decode cX5_settles 35 = .ok (.iload_n 3, 1) := by decide +kernel
theorem dX5_settles_36 : decode cX5_settles 36 = .ok (.isub, 1) := by decide +kernel
theorem dX5_settles_37 : decode cX5_settles 37 = .ok (.putfield 90, 3) := by decide +kernel
theorem dX5_settles_40 : decode cX5_settles 40 = .ok (.aload_n 0, 1) := by decide +kernel
theorem dX5_settles_41 : decode cX5_settles 41 = .ok (.dup, 1) := by decide +kernel
theorem dX5_settles_42 : decode cX5_settles 42 = .ok (.getfield 116, 3) := by decide +kernel
theorem dX5_settles_45 : decode cX5_settles 45 = .ok (.iload_n 3, 1) := by decide +kernel
theorem dX5_settles_46 : decode cX5_settles 46 = .ok (.iadd, 1) := by decide +kernel
theorem dX5_settles_47 : decode cX5_settles 47 = .ok (.putfield 116, 3) := by decide +kernel
theorem dX5_settles_50 : decode cX5_settles 50 = .ok (.aload_n 0, 1) := by decide +kernel
theorem dX5_settles_51 : decode cX5_settles 51 = .ok (.invokevirtual 102, 3) := by decide +kernel
theorem dX5_settles_54 : decode cX5_settles 54 = .ok (.iload_n 3, 1) := by decide +kernel
theorem dX5_settles_55 : decode cX5_settles 55 = .ok (.ireturn, 1) := by decide +kernel
set_option maxRecDepth 20000 in
theorem ggX5_agree_X5_isClaim : GoodIn wsX5_agree wsX5_isClaim := goodIn_r _ [7, 8, 9, 10, 6, 11, 50, 51, 52, 53, 54, 55, 56, 57, 58, 59, 60, 61, 62, 63, 64, 65, 66, 67, 68, 69, 70, 71, 72, 73, 74, 75, 76, 77, 78, 79, 80] (by decide +kernel) (by decide +kernel)
set_option maxRecDepth 20000 in
theorem gX5_agree_X5_isClaim : GoodIn wsX5_agree (wsV RX5 105 RX5 yX5_isClaim wsX5_isClaim) := goodIn_app (goodIn_of _ (by decide +kernel)) ggX5_agree_X5_isClaim
set_option maxRecDepth 20000 in
theorem ggX5_agree_X5_isFine : GoodIn wsX5_agree wsX5_isFine := goodIn_r _ [15, 16, 50, 51, 52, 53, 54, 55, 56, 57, 58, 59, 60, 61, 62, 63, 64, 65, 66, 67, 68, 69, 70, 71, 72, 73, 74, 75, 76, 77, 78, 79, 80] (by decide +kernel) (by decide +kernel)
set_option maxRecDepth 20000 in
theorem gX5_agree_X5_isFine : GoodIn wsX5_agree (wsV RX5 70 RX5 yX5_isFine wsX5_isFine) := goodIn_app (goodIn_of _ (by decide +kernel)) ggX5_agree_X5_isFine
set_option maxRecDepth 20000 in
theorem ggX5_agree_X5_settles : GoodIn wsX5_agree wsX5_settles := goodIn_r _ [20, 1, 21, 22, 23, 24, 25, 6, 26, 27, 28, 29, 30, 31, 32, 33, 34, 35, 8, 36, 37, 38, 39, 40, 41, 42, 43, 44, 45, 46, 47, 48, 49, 50, 51, 52, 53, 54, 55, 56, 57, 58, 59, 60, 61, 62, 63, 64, 65, 66, 67, 68, 69, 70, 71, 72, 73, 74, 75, 76, 77, 78, 79, 80] (by decide +kernel) (by decide +kernel)
set_option maxRecDepth 20000 in
theorem gX5_agree_X5_settles : GoodIn wsX5_agree (wsV RX5 125 RX5 yX5_settles wsX5_settles) := goodIn_app (goodIn_of _ (by decide +kernel)) ggX5_agree_X5_settles
theorem dX5_agree_0 : decode cX5_agree 0 = .ok (.aload_n 0, 1) := by decide +kernel
theorem dX5_agree_1 : decode cX5_agree 1 = .ok (.iload_n 1, 1) := by decide +kernel
theorem dX5_agree_2 : decode cX5_agree 2 = .ok (.invokevirtual 105, 3) := by decide +kernel
theorem dX5_agree_5 : decode cX5_agree 5 = .ok (.ifCond .ne 7, 3) := by decide +kernel
theorem dX5_agree_8 : decode cX5_agree 8 = .ok (.iconst 1, 1) := by decide +kernel
theorem dX5_agree_9 : decode cX5_agree 9 = .ok (.goto 28, 3) := by decide +kernel
theorem dX5_agree_12 : decode cX5_agree 12 = .ok (.aload_n 0, 1) := by decide +kernel
theorem dX5_agree_13 : decode cX5_agree 13 = .ok (.getfield 47, 3) := by decide +kernel
theorem dX5_agree_16 : decode cX5_agree 16 = .ok (.iload_n 1, 1) := by decide +kernel
theorem dX5_agree_17 : decode cX5_agree 17 = .ok (.iaload, 1) := by decide +kernel
theorem dX5_agree_18 : decode cX5_agree 18 = .ok (.iconst (-1), 1) := by decide +kernel
theorem dX5_agree_19 : decode cX5_agree 19 = .ok (.if_icmp .ne 13, 3) := by decide +kernel
theorem dX5_agree_22 : decode cX5_agree 22 = .ok (.aload_n 0, 1) := by decide +kernel
theorem dX5_agree_23 : decode cX5_agree 23 = .ok (.getfield 44, 3) := by decide +kernel
theorem dX5_agree_26 : decode cX5_agree 26 = .ok (.iload_n 1, 1) := by decide +kernel
theorem dX5_agree_27 : decode cX5_agree 27 = .ok (.iaload, 1) := by decide +kernel
theorem dX5_agree_28 : decode cX5_agree 28 = .ok (.iconst (-1), 1) := by decide +kernel
theorem dX5_agree_29 : decode cX5_agree 29 = .ok (.if_icmp .ne 7, 3) := by decide +kernel
theorem dX5_agree_32 : decode cX5_agree 32 = .ok (.iconst 2, 1) := by decide +kernel
theorem dX5_agree_33 : decode cX5_agree 33 = .ok (.goto 4, 3) := by decide +kernel
theorem dX5_agree_36 : decode cX5_agree 36 = .ok (.iconst 0, 1) := by decide +kernel
theorem dX5_agree_37 : decode cX5_agree 37 = .ok (.istore_n 2, 1) := by decide +kernel
theorem dX5_agree_38 : decode cX5_agree 38 = .ok (.aload_n 0, 1) := by decide +kernel
theorem dX5_agree_39 : decode cX5_agree 39 = .ok (.iload_n 2, 1) := by decide +kernel
theorem dX5_agree_40 : decode cX5_agree 40 = .ok (.invokevirtual 70, 3) := by decide +kernel
theorem dX5_agree_43 : decode cX5_agree 43 = .ok (.ifCond .eq 17, 3) := by decide +kernel
theorem dX5_agree_46 : decode cX5_agree 46 = .ok (.aload_n 0, 1) := by decide +kernel
theorem dX5_agree_47 : decode cX5_agree 47 = .ok (.iload_n 1, 1) := by decide +kernel
theorem dX5_agree_48 : decode cX5_agree 48 = .ok (.aload_n 0, 1) := by decide +kernel
theorem dX5_agree_49 : decode cX5_agree 49 = .ok (.getfield 44, 3) := by decide +kernel
theorem dX5_agree_52 : decode cX5_agree 52 = .ok (.iload_n 1, 1) := by decide +kernel
theorem dX5_agree_53 : decode cX5_agree 53 = .ok (.iaload, 1) := by decide +kernel
theorem dX5_agree_54 : decode cX5_agree 54 = .ok (.invokevirtual 125, 3) := by decide +kernel
theorem dX5_agree_57 : decode cX5_agree 57 = .ok (.goto 4, 3) := by decide +kernel
theorem dX5_agree_60 : decode cX5_agree 60 = .ok (.iconst 0, 1) := by decide +kernel
theorem dX5_agree_61 : decode cX5_agree 61 = .ok (.ireturn, 1) := by decide +kernel
set_option maxRecDepth 20000 in
theorem ggX5_decide_X5_isClaim : GoodIn wsX5_decide wsX5_isClaim := goodIn_r _ [8, 9, 10, 11, 7, 12, 50, 51, 52, 53, 54, 55, 56, 57, 58, 59, 60, 61, 62, 63, 64, 65, 66, 67, 68, 69, 70, 71, 72, 73, 74, 75, 76, 77, 78, 79, 80] (by decide +kernel) (by decide +kernel)
set_option maxRecDepth 20000 in
theorem gX5_decide_X5_isClaim : GoodIn wsX5_decide (wsV RX5 105 RX5 yX5_isClaim wsX5_isClaim) := goodIn_app (goodIn_of _ (by decide +kernel)) ggX5_decide_X5_isClaim
set_option maxRecDepth 20000 in
theorem ggX5_decide_X5_in : GoodIn wsX5_decide wsX5_in := goodIn_r _ [12] (by decide +kernel) (by decide +kernel)
set_option maxRecDepth 20000 in
theorem gX5_decide_X5_in : GoodIn wsX5_decide (va_wsS RX5 61 yX5_in wsX5_in) := goodIn_app (goodIn_of _ (by decide +kernel)) ggX5_decide_X5_in
set_option maxRecDepth 20000 in
theorem ggX5_decide_X5_isFine : GoodIn wsX5_decide wsX5_isFine := goodIn_r _ [16, 17, 50, 51, 52, 53, 54, 55, 56, 57, 58, 59, 60, 61, 62, 63, 64, 65, 66, 67, 68, 69, 70, 71, 72, 73, 74, 75, 76, 77, 78, 79, 80] (by decide +kernel) (by decide +kernel)
set_option maxRecDepth 20000 in
theorem gX5_decide_X5_isFine : GoodIn wsX5_decide (wsV RX5 70 RX5 yX5_isFine wsX5_isFine) := goodIn_app (goodIn_of _ (by decide +kernel)) ggX5_decide_X5_isFine
set_option maxRecDepth 20000 in
theorem ggX5_decide_X5_settles : GoodIn wsX5_decide wsX5_settles := goodIn_r _ [21, 1, 22, 23, 24, 25, 26, 7, 27, 28, 29, 30, 31, 32, 33, 34, 35, 36, 9, 37, 38, 39, 40, 41, 42, 43, 44, 45, 46, 47, 48, 3, 49, 50, 51, 52, 53, 54, 55, 56, 57, 58, 59, 60, 61, 62, 63, 64, 65, 66, 67, 68, 69, 70, 71, 72, 73, 74, 75, 76, 77, 78, 79, 80] (by decide +kernel) (by decide +kernel)
set_option maxRecDepth 20000 in
theorem gX5_decide_X5_settles : GoodIn wsX5_decide (wsV RX5 125 RX5 yX5_settles wsX5_settles) := goodIn_app (goodIn_of _ (by decide +kernel)) ggX5_decide_X5_settles
theorem dX5_decide_0 : decode cX5_decide 0 = .ok (.aload_n 0, 1) := by decide +kernel
theorem dX5_decide_1 : decode cX5_decide 1 = .ok (.iload_n 1, 1) := by decide +kernel
theorem dX5_decide_2 : decode cX5_decide 2 = .ok (.invokevirtual 105, 3) := by decide +kernel
theorem dX5_decide_5 : decode cX5_decide 5 = .ok (.ifCond .ne 7, 3) := by decide +kernel
theorem dX5_decide_8 : decode cX5_decide 8 = .ok (.iconst 1, 1) := by decide +kernel
theorem dX5_decide_9 : decode cX5_decide 9 = .ok (.goto 18, 3) := by decide +kernel
theorem dX5_decide_12 : decode cX5_decide 12 = .ok (.aload_n 0, 1) := by decide +kernel
theorem dX5_decide_13 : decode cX5_decide 13 = .ok (.getfield 47, 3) := by decide +kernel
theorem dX5_decide_16 : decode cX5_decide 16 = .ok (.iload_n 1, 1) := by decide +kernel
theorem dX5_decide_17 : decode cX5_decide 17 = .ok (.iaload, 1) := by decide +kernel
theorem dX5_decide_18 : decode cX5_decide 18 = .ok (.iconst (-1), 1) := by decide +kernel
theorem dX5_decide_19 : decode cX5_decide 19 = .ok (.if_icmp .eq 7, 3) := by decide +kernel
theorem dX5_decide_22 : decode cX5_decide 22 = .ok (.iconst 2, 1) := by decide +kernel
theorem dX5_decide_23 : decode cX5_decide 23 = .ok (.goto 4, 3) := by decide +kernel
theorem dX5_decide_26 : decode cX5_decide 26 = .ok (.iconst 0, 1) := by decide +kernel
theorem dX5_decide_27 : decode cX5_decide 27 = .ok (.istore_n 3, 1) := by decide +kernel
theorem dX5_decide_28 : decode cX5_decide 28 = .ok (.iload_n 3, 1) := by decide +kernel
theorem dX5_decide_29 : decode cX5_decide 29 = .ok (.ifCond .ne 38, 3) := by decide +kernel
theorem dX5_decide_32 : decode cX5_decide 32 = .ok (.iload_n 2, 1) := by decide +kernel
theorem dX5_decide_33 : decode cX5_decide 33 = .ok (.aload_n 0, 1) := by decide +kernel
theorem dX5_decide_34 : decode cX5_decide 34 = .ok (.getfield 44, 3) := by decide +kernel
theorem dX5_decide_37 : decode cX5_decide 37 = .ok (.iload_n 1, 1) := by decide +kernel
theorem dX5_decide_38 : decode cX5_decide 38 = .ok (.iaload, 1) := by decide +kernel
theorem dX5_decide_39 : decode cX5_decide 39 = .ok (.iconst (-1), 1) := by decide +kernel
theorem dX5_decide_40 : decode cX5_decide 40 = .ok (.if_icmp .ne 7, 3) := by decide +kernel
theorem dX5_decide_43 : decode cX5_decide 43 = .ok (.iconst 0, 1) := by decide +kernel
theorem dX5_decide_44 : decode cX5_decide 44 = .ok (.goto 9, 3) := by decide +kernel
theorem dX5_decide_47 : decode cX5_decide 47 = .ok (.aload_n 0, 1) := by decide +kernel
theorem dX5_decide_48 : decode cX5_decide 48 = .ok (.getfield 44, 3) := by decide +kernel
theorem dX5_decide_51 : decode cX5_decide 51 = .ok (.iload_n 1, 1) := by decide +kernel
theorem dX5_decide_52 : decode cX5_decide 52 = .ok (.iaload, 1) := by decide +kernel
theorem dX5_decide_53 : decode cX5_decide 53 = .ok (.aload_n 0, 1) := by decide +kernel
theorem dX5_decide_54 : decode cX5_decide 54 = .ok (.getfield 41, 3) := by decide +kernel
theorem dX5_decide_57 : decode cX5_decide 57 = .ok (.iload_n 1, 1) := by decide +kernel
theorem dX5_decide_58 : decode cX5_decide 58 = .ok (.iaload, 1) := by decide +kernel
theorem dX5_decide_59 : decode cX5_decide 59 = .ok (.invokestatic 61, 3) := by decide +kernel
theorem dX5_decide_62 : decode cX5_decide 62 = .ok (.ifCond .ne 5, 3) := by decide +kernel
theorem dX5_decide_65 : decode cX5_decide 65 = .ok (.iconst 3, 1) := by decide +kernel
theorem dX5_decide_66 : decode cX5_decide 66 = .ok (.istore_n 3, 1) := by decide +kernel
theorem dX5_decide_67 : decode cX5_decide 67 = .ok (.aload_n 0, 1) := by decide +kernel
theorem dX5_decide_68 : decode cX5_decide 68 = .ok (.iload_n 3, 1) := by decide +kernel
theorem dX5_decide_69 : decode cX5_decide 69 = .ok (.invokevirtual 70, 3) := by decide +kernel
theorem dX5_decide_72 : decode cX5_decide 72 = .ok (.ifCond .eq 12, 3) := by decide +kernel
theorem dX5_decide_75 : decode cX5_decide 75 = .ok (.aload_n 0, 1) := by decide +kernel
theorem dX5_decide_76 : decode cX5_decide 76 = .ok (.iload_n 1, 1) := by decide +kernel
theorem dX5_decide_77 : decode cX5_decide 77 = .ok (.iload_n 2, 1) := by decide +kernel
theorem dX5_decide_78 : decode cX5_decide 78 = .ok (.invokevirtual 125, 3) := by decide +kernel
theorem dX5_decide_81 : decode cX5_decide 81 = .ok (.goto 4, 3) := by decide +kernel
theorem dX5_decide_84 : decode cX5_decide 84 = .ok (.iconst 0, 1) := by decide +kernel
theorem dX5_decide_85 : decode cX5_decide 85 = .ok (.ireturn, 1) := by decide +kernel
set_option maxRecDepth 20000 in
theorem ggX5_owes_X5_open : GoodIn wsX5_owes wsX5_open := goodIn_r _ [8, 9, 1, 10, 11, 12, 7, 13, 14, 15, 16, 17, 18, 19, 20, 21, 22, 23, 24, 25, 26, 27, 28, 29, 30, 31, 32, 33, 34, 35, 36, 37, 38, 39, 40, 41, 42, 43, 44, 45, 46, 47, 48, 49, 50, 51, 52, 53, 54, 55] (by decide +kernel) (by decide +kernel)
set_option maxRecDepth 20000 in
theorem gX5_owes_X5_open : GoodIn wsX5_owes (wsV RX5 122 RX5 yX5_open wsX5_open) := goodIn_app (goodIn_of _ (by decide +kernel)) ggX5_owes_X5_open
theorem dX5_owes_0 : decode cX5_owes 0 = .ok (.aload_n 0, 1) := by decide +kernel
theorem dX5_owes_1 : decode cX5_owes 1 = .ok (.invokevirtual 122, 3) := by decide +kernel
theorem dX5_owes_4 : decode cX5_owes 4 = .ok (.iload_n 1, 1) := by decide +kernel
theorem dX5_owes_5 : decode cX5_owes 5 = .ok (.if_icmp .ge 10, 3) := by decide +kernel
theorem dX5_owes_8 : decode cX5_owes 8 = .ok (.aload_n 0, 1) := by decide +kernel
theorem dX5_owes_9 : decode cX5_owes 9 = .ok (.invokevirtual 122, 3) := by decide +kernel
theorem dX5_owes_12 : decode cX5_owes 12 = .ok (.goto 4, 3) := by decide +kernel
theorem dX5_owes_15 : decode cX5_owes 15 = .ok (.iload_n 1, 1) := by decide +kernel
theorem dX5_owes_16 : decode cX5_owes 16 = .ok (.istore_n 2, 1) := by decide +kernel
theorem dX5_owes_17 : decode cX5_owes 17 = .ok (.aload_n 0, 1) := by decide +kernel
theorem dX5_owes_18 : decode cX5_owes 18 = .ok (.dup, 1) := by decide +kernel
theorem dX5_owes_19 : decode cX5_owes 19 = .ok (.getfield 119, 3) := by decide +kernel
theorem dX5_owes_22 : decode cX5_owes 22 = .ok (.iload_n 2, 1) := by decide +kernel
theorem dX5_owes_23 : decode cX5_owes 23 = .ok (.iadd, 1) := by decide +kernel
theorem dX5_owes_24 : decode cX5_owes 24 = .ok (.putfield 119, 3) := by decide +kernel
theorem dX5_owes_27 : decode cX5_owes 27 = .ok (.aload_n 0, 1) := by decide +kernel
theorem dX5_owes_28 : decode cX5_owes 28 = .ok (.dup, 1) := by decide +kernel
theorem dX5_owes_29 : decode cX5_owes 29 = .ok (.getfield 93, 3) := by decide +kernel
theorem dX5_owes_32 : decode cX5_owes 32 = .ok (.iload_n 1, 1) := by decide +kernel
theorem dX5_owes_33 : decode cX5_owes 33 = .ok (.iload_n 2, 1) := by decide +kernel
theorem dX5_owes_34 : decode cX5_owes 34 = .ok (.isub, 1) := by decide +kernel
theorem dX5_owes_35 : decode cX5_owes 35 = .ok (.iadd, 1) := by decide +kernel
theorem dX5_owes_36 : decode cX5_owes 36 = .ok (.putfield 93, 3) := by decide +kernel
theorem dX5_owes_39 : decode cX5_owes 39 = .ok (.aload_n 0, 1) := by decide +kernel
theorem dX5_owes_40 : decode cX5_owes 40 = .ok (.dup, 1) := by decide +kernel
theorem dX5_owes_41 : decode cX5_owes 41 = .ok (.getfield 129, 3) := by decide +kernel
theorem dX5_owes_44 : decode cX5_owes 44 = .ok (.iload_n 1, 1) := by decide +kernel
theorem dX5_owes_45 : decode cX5_owes 45 = .ok (.iadd, 1) := by decide +kernel
theorem dX5_owes_46 : decode cX5_owes 46 = .ok (.putfield 129, 3) := by decide +kernel
theorem dX5_owes_49 : decode cX5_owes 49 = .ok (.iload_n 1, 1) := by decide +kernel
theorem dX5_owes_50 : decode cX5_owes 50 = .ok (.ireturn, 1) := by decide +kernel
set_option maxRecDepth 20000 in
theorem ggX5_report_X5_in : GoodIn wsX5_report wsX5_in := goodIn_r _ [14] (by decide +kernel) (by decide +kernel)
set_option maxRecDepth 20000 in
theorem gX5_report_X5_in : GoodIn wsX5_report (va_wsS RX5 61 yX5_in wsX5_in) := goodIn_app (goodIn_of _ (by decide +kernel)) ggX5_report_X5_in
set_option maxRecDepth 20000 in
theorem ggX5_report_X5_isFine : GoodIn wsX5_report wsX5_isFine := goodIn_r _ [18, 19, 47, 48, 49, 50, 51, 52, 53, 54, 55, 56, 57, 58, 59, 60, 61, 62, 63, 64, 65, 66, 67, 68, 69, 70, 71, 72, 73, 74, 75, 76, 77] (by decide +kernel) (by decide +kernel)
set_option maxRecDepth 20000 in
theorem gX5_report_X5_isFine : GoodIn wsX5_report (wsV RX5 70 RX5 yX5_isFine wsX5_isFine) := goodIn_app (goodIn_of _ (by decide +kernel)) ggX5_report_X5_isFine
set_option maxRecDepth 20000 in
theorem ggX5_report_X5_owes : GoodIn wsX5_report wsX5_owes := goodIn_r _ [23, 24, 25, 26, 27, 28, 29, 13, 30, 31, 32, 33, 34, 35, 36, 37, 38, 39, 40, 41, 42, 43, 44, 45, 46, 47, 48, 49, 50, 51, 52, 53, 54, 55, 56, 57, 58, 59, 60, 61, 62, 63, 64, 65, 66, 67, 68, 69, 70, 71, 72, 73, 74, 75, 76, 77] (by decide +kernel) (by decide +kernel)
set_option maxRecDepth 20000 in
theorem gX5_report_X5_owes : GoodIn wsX5_report (wsV RX5 138 RX5 yX5_owes wsX5_owes) := goodIn_app (goodIn_of _ (by decide +kernel)) ggX5_report_X5_owes
theorem dX5_report_0 : decode cX5_report 0 = .ok (.aload_n 0, 1) := by decide +kernel
theorem dX5_report_1 : decode cX5_report 1 = .ok (.iload_n 1, 1) := by decide +kernel
theorem dX5_report_2 : decode cX5_report 2 = .ok (.ldc 65, 2) := by decide +kernel
theorem dX5_report_4 : decode cX5_report 4 = .ok (.ldc 60, 2) := by decide +kernel
theorem dX5_report_6 : decode cX5_report 6 = .ok (.invokestatic 61, 3) := by decide +kernel
theorem dX5_report_9 : decode cX5_report 9 = .ok (.ifCond .ne 7, 3) := by decide +kernel
theorem dX5_report_12 : decode cX5_report 12 = .ok (.iconst 1, 1) := by decide +kernel
theorem dX5_report_13 : decode cX5_report 13 = .ok (.goto 30, 3) := by decide +kernel
theorem dX5_report_16 : decode cX5_report 16 = .ok (.aload_n 0, 1) := by decide +kernel
theorem dX5_report_17 : decode cX5_report 17 = .ok (.getfield 66, 3) := by decide +kernel
theorem dX5_report_20 : decode cX5_report 20 = .ok (.ifCond .eq 18, 3) := by decide +kernel
theorem dX5_report_23 : decode cX5_report 23 = .ok (.aload_n 0, 1) := by decide +kernel
theorem dX5_report_24 : decode cX5_report 24 = .ok (.getfield 132, 3) := by decide +kernel
theorem dX5_report_27 : decode cX5_report 27 = .ok (.iconst 4, 1) := by decide +kernel
theorem dX5_report_28 : decode cX5_report 28 = .ok (.if_icmp .eq 10, 3) := by decide +kernel
theorem dX5_report_31 : decode cX5_report 31 = .ok (.aload_n 0, 1) := by decide +kernel
theorem dX5_report_32 : decode cX5_report 32 = .ok (.getfield 135, 3) := by decide +kernel
theorem dX5_report_35 : decode cX5_report 35 = .ok (.ifCond .eq 7, 3) := by decide +kernel
theorem dX5_report_38 : decode cX5_report 38 = .ok (.iconst 2, 1) := by decide +kernel
theorem dX5_report_39 : decode cX5_report 39 = .ok (.goto 4, 3) := by decide +kernel
theorem dX5_report_42 : decode cX5_report 42 = .ok (.iconst 0, 1) := by decide +kernel
theorem dX5_report_43 : decode cX5_report 43 = .ok (.invokevirtual 70, 3) := by decide +kernel
theorem dX5_report_46 : decode cX5_report 46 = .ok (.ifCond .ne 5, 3) := by decide +kernel
theorem dX5_report_49 : decode cX5_report 49 = .ok (.iconst 0, 1) := by decide +kernel
theorem dX5_report_50 : decode cX5_report 50 = .ok (.ireturn, 1) := by decide +kernel
theorem dX5_report_51 : decode cX5_report 51 = .ok (.aload_n 0, 1) := by decide +kernel
theorem dX5_report_52 : decode cX5_report 52 = .ok (.getfield 50, 3) := by decide +kernel
theorem dX5_report_55 : decode cX5_report 55 = .ok (.aload_n 0, 1) := by decide +kernel
theorem dX5_report_56 : decode cX5_report 56 = .ok (.getfield 132, 3) := by decide +kernel
theorem dX5_report_59 : decode cX5_report 59 = .ok (.iload_n 1, 1) := by decide +kernel
theorem dX5_report_60 : decode cX5_report 60 = .ok (.iastore, 1) := by decide +kernel
theorem dX5_report_61 : decode cX5_report 61 = .ok (.aload_n 0, 1) := by decide +kernel
theorem dX5_report_62 : decode cX5_report 62 = .ok (.dup, 1) := by decide +kernel
theorem dX5_report_63 : decode cX5_report 63 = .ok (.getfield 132, 3) := by decide +kernel
theorem dX5_report_66 : decode cX5_report 66 = .ok (.iconst 1, 1) := by decide +kernel
theorem dX5_report_67 : decode cX5_report 67 = .ok (.iadd, 1) := by decide +kernel
theorem dX5_report_68 : decode cX5_report 68 = .ok (.putfield 132, 3) := by decide +kernel
theorem dX5_report_71 : decode cX5_report 71 = .ok (.iconst 0, 1) := by decide +kernel
theorem dX5_report_72 : decode cX5_report 72 = .ok (.istore_n 2, 1) := by decide +kernel
theorem dX5_report_73 : decode cX5_report 73 = .ok (.iconst 0, 1) := by decide +kernel
theorem dX5_report_74 : decode cX5_report 74 = .ok (.istore_n 3, 1) := by decide +kernel
theorem dX5_report_75 : decode cX5_report 75 = .ok (.iconst 0, 1) := by decide +kernel
theorem dX5_report_76 : decode cX5_report 76 = .ok (.istore 4, 2) := by decide +kernel
theorem dX5_report_78 : decode cX5_report 78 = .ok (.iload 4, 2) := by decide +kernel
theorem dX5_report_80 : decode cX5_report 80 = .ok (.aload_n 0, 1) := by decide +kernel
theorem dX5_report_81 : decode cX5_report 81 = .ok (.getfield 132, 3) := by decide +kernel
theorem dX5_report_84 : decode cX5_report 84 = .ok (.if_icmp .ge 29, 3) := by decide +kernel
theorem dX5_report_87 : decode cX5_report 87 = .ok (.iload_n 2, 1) := by decide +kernel
theorem dX5_report_88 : decode cX5_report 88 = .ok (.aload_n 0, 1) := by decide +kernel
theorem dX5_report_89 : decode cX5_report 89 = .ok (.getfield 50, 3) := by decide +kernel
theorem dX5_report_92 : decode cX5_report 92 = .ok (.iload 4, 2) := by decide +kernel
theorem dX5_report_94 : decode cX5_report 94 = .ok (.iaload, 1) := by decide +kernel
theorem dX5_report_95 : decode cX5_report 95 = .ok (.iadd, 1) := by decide +kernel
theorem dX5_report_96 : decode cX5_report 96 = .ok (.istore_n 2, 1) := by decide +kernel
theorem dX5_report_97 : decode cX5_report 97 = .ok (.iload_n 3, 1) := by decide +kernel
theorem dX5_report_98 : decode cX5_report 98 = .ok (.aload_n 0, 1) := by decide +kernel
theorem dX5_report_99 : decode cX5_report 99 = .ok (.getfield 32, 3) := by decide +kernel
theorem dX5_report_102 : decode cX5_report 102 = .ok (.iload 4, 2) := by decide +kernel
theorem dX5_report_104 : decode cX5_report 104 = .ok (.iaload, 1) := by decide +kernel
theorem dX5_report_105 : decode cX5_report 105 = .ok (.iadd, 1) := by decide +kernel
theorem dX5_report_106 : decode cX5_report 106 = .ok (.istore_n 3, 1) := by decide +kernel
theorem dX5_report_107 : decode cX5_report 107 = .ok (.iinc 4 1, 3) := by decide +kernel
theorem dX5_report_110 : decode cX5_report 110 = .ok (.goto (-32), 3) := by decide +kernel
theorem dX5_report_113 : decode cX5_report 113 = .ok (.aload_n 0, 1) := by decide +kernel
theorem dX5_report_114 : decode cX5_report 114 = .ok (.getfield 84, 3) := by decide +kernel
theorem dX5_report_117 : decode cX5_report 117 = .ok (.ifCond .eq 12, 3) := by decide +kernel
theorem dX5_report_120 : decode cX5_report 120 = .ok (.iload_n 2, 1) := by decide +kernel
theorem dX5_report_121 : decode cX5_report 121 = .ok (.iload_n 3, 1) := by decide +kernel
theorem dX5_report_122 : decode cX5_report 122 = .ok (.if_icmp .lt 7, 3) := by decide +kernel
theorem dX5_report_125 : decode cX5_report 125 = .ok (.iconst 1, 1) := by decide +kernel
theorem dX5_report_126 : decode cX5_report 126 = .ok (.goto 4, 3) := by decide +kernel
theorem dX5_report_129 : decode cX5_report 129 = .ok (.iconst 0, 1) := by decide +kernel
theorem dX5_report_130 : decode cX5_report 130 = .ok (.istore 4, 2) := by decide +kernel
theorem dX5_report_132 : decode cX5_report 132 = .ok (.iconst 0, 1) := by decide +kernel
theorem dX5_report_133 : decode cX5_report 133 = .ok (.istore 5, 2) := by decide +kernel
theorem dX5_report_135 : decode cX5_report 135 = .ok (.iconst 0, 1) := by decide +kernel
theorem dX5_report_136 : decode cX5_report 136 = .ok (.istore 6, 2) := by decide +kernel
theorem dX5_report_138 : decode cX5_report 138 = .ok (.iload 6, 2) := by decide +kernel
theorem dX5_report_140 : decode cX5_report 140 = .ok (.aload_n 0, 1) := by decide +kernel
theorem dX5_report_141 : decode cX5_report 141 = .ok (.getfield 132, 3) := by decide +kernel
theorem dX5_report_144 : decode cX5_report 144 = .ok (.if_icmp .ge 101, 3) := by decide +kernel
theorem dX5_report_147 : decode cX5_report 147 = .ok (.iload 4, 2) := by decide +kernel
theorem dX5_report_149 : decode cX5_report 149 = .ok (.ifCond .ne 25, 3) := by decide +kernel
theorem dX5_report_152 : decode cX5_report 152 = .ok (.iload 6, 2) := by decide +kernel
theorem dX5_report_154 : decode cX5_report 154 = .ok (.aload_n 0, 1) := by decide +kernel
theorem dX5_report_155 : decode cX5_report 155 = .ok (.getfield 132, 3) := by decide +kernel
theorem dX5_report_158 : decode cX5_report 158 = .ok (.iconst 1, 1) := by decide +kernel
theorem dX5_report_159 : decode cX5_report 159 = .ok (.isub, 1) := by decide +kernel
theorem dX5_report_160 : decode cX5_report 160 = .ok (.if_icmp .ne 18, 3) := by decide +kernel
theorem dX5_report_163 : decode cX5_report 163 = .ok (.iload_n 1, 1) := by decide +kernel
theorem dX5_report_164 : decode cX5_report 164 = .ok (.aload_n 0, 1) := by decide +kernel
theorem dX5_report_165 : decode cX5_report 165 = .ok (.getfield 32, 3) := by decide +kernel
theorem dX5_report_168 : decode cX5_report 168 = .ok (.iload 6, 2) := by decide +kernel
theorem dX5_report_170 : decode cX5_report 170 = .ok (.iaload, 1) := by decide +kernel
theorem dX5_report_171 : decode cX5_report 171 = .ok (.if_icmp .lt 7, 3) := by decide +kernel
theorem dX5_report_174 : decode cX5_report 174 = .ok (.iconst 1, 1) := by decide +kernel
theorem dX5_report_175 : decode cX5_report 175 = .ok (.goto 4, 3) := by decide +kernel
theorem dX5_report_178 : decode cX5_report 178 = .ok (.iconst 0, 1) := by decide +kernel
theorem dX5_report_179 : decode cX5_report 179 = .ok (.istore 7, 2) := by decide +kernel
theorem dX5_report_181 : decode cX5_report 181 = .ok (.iload 5, 2) := by decide +kernel
theorem dX5_report_183 : decode cX5_report 183 = .ok (.iload 7, 2) := by decide +kernel
theorem dX5_report_185 : decode cX5_report 185 = .ok (.ifCond .eq 23, 3) := by decide +kernel
theorem dX5_report_188 : decode cX5_report 188 = .ok (.aload_n 0, 1) := by decide +kernel
theorem dX5_report_189 : decode cX5_report 189 = .ok (.getfield 53, 3) := by decide +kernel
theorem dX5_report_192 : decode cX5_report 192 = .ok (.iload 6, 2) := by decide +kernel
theorem dX5_report_194 : decode cX5_report 194 = .ok (.baload, 1) := by decide +kernel
theorem dX5_report_195 : decode cX5_report 195 = .ok (.ifCond .ne 13, 3) := by decide +kernel
theorem dX5_report_198 : decode cX5_report 198 = .ok (.aload_n 0, 1) := by decide +kernel
theorem dX5_report_199 : decode cX5_report 199 = .ok (.getfield 35, 3) := by decide +kernel
theorem dX5_report_202 : decode cX5_report 202 = .ok (.iload 6, 2) := by decide +kernel
theorem dX5_report_204 : decode cX5_report 204 = .ok (.iaload, 1) := by decide +kernel
theorem dX5_report_205 : decode cX5_report 205 = .ok (.goto 4, 3) := by decide +kernel
theorem dX5_report_208 : decode cX5_report 208 = .ok (.iconst 0, 1) := by decide +kernel
theorem dX5_report_209 : decode cX5_report 209 = .ok (.iadd, 1) := by decide +kernel
theorem dX5_report_210 : decode cX5_report 210 = .ok (.istore 5, 2) := by decide +kernel
theorem dX5_report_212 : decode cX5_report 212 = .ok (.aload_n 0, 1) := by decide +kernel
theorem dX5_report_213 : decode cX5_report 213 = .ok (.getfield 53, 3) := by decide +kernel
theorem dX5_report_216 : decode cX5_report 216 = .ok (.iload 6, 2) := by decide +kernel
theorem dX5_report_218 : decode cX5_report 218 = .ok (.aload_n 0, 1) := by decide +kernel
theorem dX5_report_219 : decode cX5_report 219 = .ok (.getfield 53, 3) := by decide +kernel
theorem dX5_report_222 : decode cX5_report 222 = .ok (.iload 6, 2) := by decide +kernel
theorem dX5_report_224 : decode cX5_report 224 = .ok (.baload, 1) := by decide +kernel
theorem dX5_report_225 : decode cX5_report 225 = .ok (.ifCond .ne 8, 3) := by decide +kernel
theorem dX5_report_228 : decode cX5_report 228 = .ok (.iload 7, 2) := by decide +kernel
theorem dX5_report_230 : decode cX5_report 230 = .ok (.ifCond .eq 7, 3) := by decide +kernel
theorem dX5_report_233 : decode cX5_report 233 = .ok (.iconst 1, 1) := by decide +kernel
theorem dX5_report_234 : decode cX5_report 234 = .ok (.goto 4, 3) := by decide +kernel
theorem dX5_report_237 : decode cX5_report 237 = .ok (.iconst 0, 1) := by decide +kernel
theorem dX5_report_238 : decode cX5_report 238 = .ok (.bastore, 1) := by decide +kernel
theorem dX5_report_239 : decode cX5_report 239 = .ok (.iinc 6 1, 3) := by decide +kernel
theorem dX5_report_242 : decode cX5_report 242 = .ok (.goto (-104), 3) := by decide +kernel
theorem dX5_report_245 : decode cX5_report 245 = .ok (.aload_n 0, 1) := by decide +kernel
theorem dX5_report_246 : decode cX5_report 246 = .ok (.iload 5, 2) := by decide +kernel
theorem dX5_report_248 : decode cX5_report 248 = .ok (.invokevirtual 138, 3) := by decide +kernel
theorem dX5_report_251 : decode cX5_report 251 = .ok (.ireturn, 1) := by decide +kernel
set_option maxRecDepth 20000 in
theorem ggX5_speedUp_X5_isFine : GoodIn wsX5_speedUp wsX5_isFine := goodIn_r _ [10, 11, 39, 40, 41, 42, 43, 44, 45, 46, 47, 48, 49, 50, 51, 52, 53, 54, 55, 56, 57, 58, 59, 60, 61, 62, 63, 64, 65, 66, 67, 68, 69] (by decide +kernel) (by decide +kernel)
set_option maxRecDepth 20000 in
theorem gX5_speedUp_X5_isFine : GoodIn wsX5_speedUp (wsV RX5 70 RX5 yX5_isFine wsX5_isFine) := goodIn_app (goodIn_of _ (by decide +kernel)) ggX5_speedUp_X5_isFine
set_option maxRecDepth 20000 in
theorem ggX5_speedUp_X5_owes : GoodIn wsX5_speedUp wsX5_owes := goodIn_r _ [15, 16, 17, 18, 19, 20, 21, 9, 22, 23, 24, 25, 26, 27, 28, 29, 30, 31, 32, 33, 34, 35, 36, 37, 38, 39, 40, 41, 42, 43, 44, 45, 46, 47, 48, 49, 50, 51, 52, 53, 54, 55, 56, 57, 58, 59, 60, 61, 62, 63, 64, 65, 66, 67, 68, 69] (by decide +kernel) (by decide +kernel)
set_option maxRecDepth 20000 in
theorem gX5_speedUp_X5_owes : GoodIn wsX5_speedUp (wsV RX5 138 RX5 yX5_owes wsX5_owes) := goodIn_app (goodIn_of _ (by decide +kernel)) ggX5_speedUp_X5_owes
theorem dX5_speedUp_0 : decode cX5_speedUp 0 = .ok (.aload_n 0, 1) := by decide +kernel
theorem dX5_speedUp_1 : decode cX5_speedUp 1 = .ok (.aload_n 0, 1) := by decide +kernel
theorem dX5_speedUp_2 : decode cX5_speedUp 2 = .ok (.getfield 66, 3) := by decide +kernel
theorem dX5_speedUp_5 : decode cX5_speedUp 5 = .ok (.ifCond .eq 10, 3) := by decide +kernel
theorem dX5_speedUp_8 : decode cX5_speedUp 8 = .ok (.aload_n 0, 1) := by decide +kernel
theorem dX5_speedUp_9 : decode cX5_speedUp 9 = .ok (.getfield 135, 3) := by decide +kernel
theorem dX5_speedUp_12 : decode cX5_speedUp 12 = .ok (.ifCond .eq 7, 3) := by decide +kernel
theorem dX5_speedUp_15 : decode cX5_speedUp 15 = .ok (.iconst 1, 1) := by decide +kernel
theorem dX5_speedUp_16 : decode cX5_speedUp 16 = .ok (.goto 4, 3) := by decide +kernel
theorem dX5_speedUp_19 : decode cX5_speedUp 19 = .ok (.iconst 0, 1) := by decide +kernel
theorem dX5_speedUp_20 : decode cX5_speedUp 20 = .ok (.invokevirtual 70, 3) := by decide +kernel
theorem dX5_speedUp_23 : decode cX5_speedUp 23 = .ok (.ifCond .ne 5, 3) := by decide +kernel
theorem dX5_speedUp_26 : decode cX5_speedUp 26 = .ok (.iconst 0, 1) := by decide +kernel
theorem dX5_speedUp_27 : decode cX5_speedUp 27 = .ok (.ireturn, 1) := by decide +kernel
theorem dX5_speedUp_28 : decode cX5_speedUp 28 = .ok (.aload_n 0, 1) := by decide +kernel
theorem dX5_speedUp_29 : decode cX5_speedUp 29 = .ok (.iconst 1, 1) := by decide +kernel
theorem dX5_speedUp_30 : decode cX5_speedUp 30 = .ok (.putfield 135, 3) := by decide +kernel
theorem dX5_speedUp_33 : decode cX5_speedUp 33 = .ok (.iconst 0, 1) := by decide +kernel
theorem dX5_speedUp_34 : decode cX5_speedUp 34 = .ok (.istore_n 1, 1) := by decide +kernel
theorem dX5_speedUp_35 : decode cX5_speedUp 35 = .ok (.aload_n 0, 1) := by decide +kernel
theorem dX5_speedUp_36 : decode cX5_speedUp 36 = .ok (.getfield 132, 3) := by decide +kernel
theorem dX5_speedUp_39 : decode cX5_speedUp 39 = .ok (.istore_n 2, 1) := by decide +kernel
theorem dX5_speedUp_40 : decode cX5_speedUp 40 = .ok (.iload_n 2, 1) := by decide +kernel
theorem dX5_speedUp_41 : decode cX5_speedUp 41 = .ok (.iconst 4, 1) := by decide +kernel
theorem dX5_speedUp_42 : decode cX5_speedUp 42 = .ok (.if_icmp .ge 25, 3) := by decide +kernel
theorem dX5_speedUp_45 : decode cX5_speedUp 45 = .ok (.aload_n 0, 1) := by decide +kernel
theorem dX5_speedUp_46 : decode cX5_speedUp 46 = .ok (.getfield 53, 3) := by decide +kernel
theorem dX5_speedUp_49 : decode cX5_speedUp 49 = .ok (.iload_n 2, 1) := by decide +kernel
theorem dX5_speedUp_50 : decode cX5_speedUp 50 = .ok (.iconst 1, 1) := by decide +kernel
theorem dX5_speedUp_51 : decode cX5_speedUp 51 = .ok (.bastore, 1) := by decide +kernel
theorem dX5_speedUp_52 : decode cX5_speedUp 52 = .ok (.iload_n 1, 1) := by decide +kernel
theorem dX5_speedUp_53 : decode cX5_speedUp 53 = .ok (.aload_n 0, 1) := by decide +kernel
theorem dX5_speedUp_54 : decode cX5_speedUp 54 = .ok (.getfield 35, 3) := by decide +kernel
theorem dX5_speedUp_57 : decode cX5_speedUp 57 = .ok (.iload_n 2, 1) := by decide +kernel
theorem dX5_speedUp_58 : decode cX5_speedUp 58 = .ok (.iaload, 1) := by decide +kernel
theorem dX5_speedUp_59 : decode cX5_speedUp 59 = .ok (.iadd, 1) := by decide +kernel
theorem dX5_speedUp_60 : decode cX5_speedUp 60 = .ok (.istore_n 1, 1) := by decide +kernel
theorem dX5_speedUp_61 : decode cX5_speedUp 61 = .ok (.iinc 2 1, 3) := by decide +kernel
theorem dX5_speedUp_64 : decode cX5_speedUp 64 = .ok (.goto (-24), 3) := by decide +kernel
theorem dX5_speedUp_67 : decode cX5_speedUp 67 = .ok (.aload_n 0, 1) := by decide +kernel
theorem dX5_speedUp_68 : decode cX5_speedUp 68 = .ok (.iload_n 1, 1) := by decide +kernel
theorem dX5_speedUp_69 : decode cX5_speedUp 69 = .ok (.invokevirtual 138, 3) := by decide +kernel
theorem dX5_speedUp_72 : decode cX5_speedUp 72 = .ok (.ireturn, 1) := by decide +kernel
theorem dX5_day_0 : decode cX5_day 0 = .ok (.aload_n 0, 1) := by decide +kernel
theorem dX5_day_1 : decode cX5_day 1 = .ok (.iconst 0, 1) := by decide +kernel
theorem dX5_day_2 : decode cX5_day 2 = .ok (.putfield 56, 3) := by decide +kernel
theorem dX5_day_5 : decode cX5_day 5 = .ok (.aload_n 0, 1) := by decide +kernel
theorem dX5_day_6 : decode cX5_day 6 = .ok (.getfield 66, 3) := by decide +kernel
theorem dX5_day_9 : decode cX5_day 9 = .ok (.ifCond .eq 10, 3) := by decide +kernel
theorem dX5_day_12 : decode cX5_day 12 = .ok (.aload_n 0, 1) := by decide +kernel
theorem dX5_day_13 : decode cX5_day 13 = .ok (.getfield 96, 3) := by decide +kernel
theorem dX5_day_16 : decode cX5_day 16 = .ok (.goto 4, 3) := by decide +kernel
theorem dX5_day_19 : decode cX5_day 19 = .ok (.iconst (-1), 1) := by decide +kernel
theorem dX5_day_20 : decode cX5_day 20 = .ok (.ireturn, 1) := by decide +kernel
theorem dX5_finalPrice_0 : decode cX5_finalPrice 0 = .ok (.aload_n 0, 1) := by decide +kernel
theorem dX5_finalPrice_1 : decode cX5_finalPrice 1 = .ok (.iconst 0, 1) := by decide +kernel
theorem dX5_finalPrice_2 : decode cX5_finalPrice 2 = .ok (.putfield 56, 3) := by decide +kernel
theorem dX5_finalPrice_5 : decode cX5_finalPrice 5 = .ok (.aload_n 0, 1) := by decide +kernel
theorem dX5_finalPrice_6 : decode cX5_finalPrice 6 = .ok (.getfield 66, 3) := by decide +kernel
theorem dX5_finalPrice_9 : decode cX5_finalPrice 9 = .ok (.ifCond .eq 10, 3) := by decide +kernel
theorem dX5_finalPrice_12 : decode cX5_finalPrice 12 = .ok (.aload_n 0, 1) := by decide +kernel
theorem dX5_finalPrice_13 : decode cX5_finalPrice 13 = .ok (.getfield 87, 3) := by decide +kernel
theorem dX5_finalPrice_16 : decode cX5_finalPrice 16 = .ok (.goto 4, 3) := by decide +kernel
theorem dX5_finalPrice_19 : decode cX5_finalPrice 19 = .ok (.iconst (-1), 1) := by decide +kernel
theorem dX5_finalPrice_20 : decode cX5_finalPrice 20 = .ok (.ireturn, 1) := by decide +kernel
theorem dX5_held_0 : decode cX5_held 0 = .ok (.aload_n 0, 1) := by decide +kernel
theorem dX5_held_1 : decode cX5_held 1 = .ok (.iconst 0, 1) := by decide +kernel
theorem dX5_held_2 : decode cX5_held 2 = .ok (.putfield 56, 3) := by decide +kernel
theorem dX5_held_5 : decode cX5_held 5 = .ok (.aload_n 0, 1) := by decide +kernel
theorem dX5_held_6 : decode cX5_held 6 = .ok (.getfield 90, 3) := by decide +kernel
theorem dX5_held_9 : decode cX5_held 9 = .ok (.ireturn, 1) := by decide +kernel
theorem dX5_paid_0 : decode cX5_paid 0 = .ok (.aload_n 0, 1) := by decide +kernel
theorem dX5_paid_1 : decode cX5_paid 1 = .ok (.iconst 0, 1) := by decide +kernel
theorem dX5_paid_2 : decode cX5_paid 2 = .ok (.putfield 56, 3) := by decide +kernel
theorem dX5_paid_5 : decode cX5_paid 5 = .ok (.aload_n 0, 1) := by decide +kernel
theorem dX5_paid_6 : decode cX5_paid 6 = .ok (.getfield 93, 3) := by decide +kernel
theorem dX5_paid_9 : decode cX5_paid 9 = .ok (.ireturn, 1) := by decide +kernel
theorem dX5_returned_0 : decode cX5_returned 0 = .ok (.aload_n 0, 1) := by decide +kernel
theorem dX5_returned_1 : decode cX5_returned 1 = .ok (.iconst 0, 1) := by decide +kernel
theorem dX5_returned_2 : decode cX5_returned 2 = .ok (.putfield 56, 3) := by decide +kernel
theorem dX5_returned_5 : decode cX5_returned 5 = .ok (.aload_n 0, 1) := by decide +kernel
theorem dX5_returned_6 : decode cX5_returned 6 = .ok (.getfield 116, 3) := by decide +kernel
theorem dX5_returned_9 : decode cX5_returned 9 = .ok (.ireturn, 1) := by decide +kernel
theorem dX5_setOff_0 : decode cX5_setOff 0 = .ok (.aload_n 0, 1) := by decide +kernel
theorem dX5_setOff_1 : decode cX5_setOff 1 = .ok (.iconst 0, 1) := by decide +kernel
theorem dX5_setOff_2 : decode cX5_setOff 2 = .ok (.putfield 56, 3) := by decide +kernel
theorem dX5_setOff_5 : decode cX5_setOff 5 = .ok (.aload_n 0, 1) := by decide +kernel
theorem dX5_setOff_6 : decode cX5_setOff 6 = .ok (.getfield 119, 3) := by decide +kernel
theorem dX5_setOff_9 : decode cX5_setOff 9 = .ok (.ireturn, 1) := by decide +kernel
theorem dX5_owed_0 : decode cX5_owed 0 = .ok (.aload_n 0, 1) := by decide +kernel
theorem dX5_owed_1 : decode cX5_owed 1 = .ok (.iconst 0, 1) := by decide +kernel
theorem dX5_owed_2 : decode cX5_owed 2 = .ok (.putfield 56, 3) := by decide +kernel
theorem dX5_owed_5 : decode cX5_owed 5 = .ok (.aload_n 0, 1) := by decide +kernel
theorem dX5_owed_6 : decode cX5_owed 6 = .ok (.getfield 129, 3) := by decide +kernel
theorem dX5_owed_9 : decode cX5_owed 9 = .ok (.ireturn, 1) := by decide +kernel
set_option maxRecDepth 20000 in
theorem ggX5_due_X5_dueAll : GoodIn wsX5_due wsX5_dueAll := goodIn_r _ [6, 7, 8, 9, 5, 10, 11, 12, 13, 14, 15, 16, 17, 18, 19, 20, 21, 22, 23, 24, 25, 26, 27, 28, 29, 30, 31, 32, 33, 34, 35, 36, 37, 38, 39, 40, 41, 42, 43, 44, 45, 46, 47, 48] (by decide +kernel) (by decide +kernel)
set_option maxRecDepth 20000 in
theorem gX5_due_X5_dueAll : GoodIn wsX5_due (wsV RX5 112 RX5 yX5_dueAll wsX5_dueAll) := goodIn_app (goodIn_of _ (by decide +kernel)) ggX5_due_X5_dueAll
theorem dX5_due_0 : decode cX5_due 0 = .ok (.aload_n 0, 1) := by decide +kernel
theorem dX5_due_1 : decode cX5_due 1 = .ok (.iconst 0, 1) := by decide +kernel
theorem dX5_due_2 : decode cX5_due 2 = .ok (.putfield 56, 3) := by decide +kernel
theorem dX5_due_5 : decode cX5_due 5 = .ok (.aload_n 0, 1) := by decide +kernel
theorem dX5_due_6 : decode cX5_due 6 = .ok (.invokevirtual 112, 3) := by decide +kernel
theorem dX5_due_9 : decode cX5_due 9 = .ok (.ireturn, 1) := by decide +kernel
set_option maxRecDepth 20000 in
theorem ggX5_outstanding_X5_open : GoodIn wsX5_outstanding wsX5_open := goodIn_r _ [6, 7, 8, 9, 10, 11, 5, 12, 13, 14, 15, 16, 17, 18, 19, 20, 21, 22, 23, 24, 25, 26, 27, 28, 29, 30, 31, 32, 33, 34, 35, 36, 37, 38, 39, 40, 41, 42, 43, 44, 45, 46, 47, 48, 49, 50, 51, 52, 53, 54] (by decide +kernel) (by decide +kernel)
set_option maxRecDepth 20000 in
theorem gX5_outstanding_X5_open : GoodIn wsX5_outstanding (wsV RX5 122 RX5 yX5_open wsX5_open) := goodIn_app (goodIn_of _ (by decide +kernel)) ggX5_outstanding_X5_open
theorem dX5_outstanding_0 : decode cX5_outstanding 0 = .ok (.aload_n 0, 1) := by decide +kernel
theorem dX5_outstanding_1 : decode cX5_outstanding 1 = .ok (.iconst 0, 1) := by decide +kernel
theorem dX5_outstanding_2 : decode cX5_outstanding 2 = .ok (.putfield 56, 3) := by decide +kernel
theorem dX5_outstanding_5 : decode cX5_outstanding 5 = .ok (.aload_n 0, 1) := by decide +kernel
theorem dX5_outstanding_6 : decode cX5_outstanding 6 = .ok (.invokevirtual 122, 3) := by decide +kernel
theorem dX5_outstanding_9 : decode cX5_outstanding 9 = .ok (.ireturn, 1) := by decide +kernel
set_option maxRecDepth 20000 in
theorem ggX5_dueOf_X5_in : GoodIn wsX5_dueOf wsX5_in := goodIn_r _ [4] (by decide +kernel) (by decide +kernel)
set_option maxRecDepth 20000 in
theorem gX5_dueOf_X5_in : GoodIn wsX5_dueOf (va_wsS RX5 61 yX5_in wsX5_in) := goodIn_app (goodIn_of _ (by decide +kernel)) ggX5_dueOf_X5_in
set_option maxRecDepth 20000 in
theorem ggX5_dueOf_X5_isFine : GoodIn wsX5_dueOf wsX5_isFine := goodIn_r _ [8, 9, 21, 22, 23, 24, 25, 26, 27, 28, 29, 30, 31, 32, 33, 34, 35, 36, 37, 38, 39, 40, 41, 42, 43, 44, 45, 46, 47, 48, 49, 50, 51] (by decide +kernel) (by decide +kernel)
set_option maxRecDepth 20000 in
theorem gX5_dueOf_X5_isFine : GoodIn wsX5_dueOf (wsV RX5 70 RX5 yX5_isFine wsX5_isFine) := goodIn_app (goodIn_of _ (by decide +kernel)) ggX5_dueOf_X5_isFine
set_option maxRecDepth 20000 in
theorem ggX5_dueOf_X5_dueFor : GoodIn wsX5_dueOf wsX5_dueFor := goodIn_r _ [13, 14, 15, 16, 17, 18, 19, 20, 21, 22, 23, 24, 25, 26, 27, 28, 29, 30, 31, 32, 33, 34, 35, 36, 37, 38, 39, 40, 41, 42, 43, 44, 45, 46, 47, 48, 49, 50, 51] (by decide +kernel) (by decide +kernel)
set_option maxRecDepth 20000 in
theorem gX5_dueOf_X5_dueFor : GoodIn wsX5_dueOf (wsV RX5 108 RX5 yX5_dueFor wsX5_dueFor) := goodIn_app (goodIn_of _ (by decide +kernel)) ggX5_dueOf_X5_dueFor
theorem dX5_dueOf_0 : decode cX5_dueOf 0 = .ok (.aload_n 0, 1) := by decide +kernel
theorem dX5_dueOf_1 : decode cX5_dueOf 1 = .ok (.iload_n 1, 1) := by decide +kernel
theorem dX5_dueOf_2 : decode cX5_dueOf 2 = .ok (.iconst 0, 1) := by decide +kernel
theorem dX5_dueOf_3 : decode cX5_dueOf 3 = .ok (.iconst 2, 1) := by decide +kernel
theorem dX5_dueOf_4 : decode cX5_dueOf 4 = .ok (.invokestatic 61, 3) := by decide +kernel
theorem dX5_dueOf_7 : decode cX5_dueOf 7 = .ok (.ifCond .eq 7, 3) := by decide +kernel
theorem dX5_dueOf_10 : decode cX5_dueOf 10 = .ok (.iconst 0, 1) := by decide +kernel
theorem dX5_dueOf_11 : decode cX5_dueOf 11 = .ok (.goto 4, 3) := by decide +kernel
theorem dX5_dueOf_14 : decode cX5_dueOf 14 = .ok (.iconst 1, 1) := by decide +kernel
theorem dX5_dueOf_15 : decode cX5_dueOf 15 = .ok (.invokevirtual 70, 3) := by decide +kernel
theorem dX5_dueOf_18 : decode cX5_dueOf 18 = .ok (.ifCond .eq 11, 3) := by decide +kernel
theorem dX5_dueOf_21 : decode cX5_dueOf 21 = .ok (.aload_n 0, 1) := by decide +kernel
theorem dX5_dueOf_22 : decode cX5_dueOf 22 = .ok (.iload_n 1, 1) := by decide +kernel
theorem dX5_dueOf_23 : decode cX5_dueOf 23 = .ok (.invokevirtual 108, 3) := by decide +kernel
theorem dX5_dueOf_26 : decode cX5_dueOf 26 = .ok (.goto 4, 3) := by decide +kernel
theorem dX5_dueOf_29 : decode cX5_dueOf 29 = .ok (.iconst 0, 1) := by decide +kernel
theorem dX5_dueOf_30 : decode cX5_dueOf 30 = .ok (.ireturn, 1) := by decide +kernel
theorem dX5_claims_0 : decode cX5_claims 0 = .ok (.aload_n 0, 1) := by decide +kernel
theorem dX5_claims_1 : decode cX5_claims 1 = .ok (.iconst 0, 1) := by decide +kernel
theorem dX5_claims_2 : decode cX5_claims 2 = .ok (.putfield 56, 3) := by decide +kernel
theorem dX5_claims_5 : decode cX5_claims 5 = .ok (.aload_n 0, 1) := by decide +kernel
theorem dX5_claims_6 : decode cX5_claims 6 = .ok (.getfield 99, 3) := by decide +kernel
theorem dX5_claims_9 : decode cX5_claims 9 = .ok (.ireturn, 1) := by decide +kernel
set_option maxRecDepth 20000 in
theorem ggX5_settledAt_X5_isClaim : GoodIn wsX5_settledAt wsX5_isClaim := goodIn_r _ [6, 7, 8, 9, 5, 10, 16, 17, 18, 19, 20, 21, 22, 23, 24, 25, 26, 27, 28, 29, 30, 31, 32, 33, 34, 35, 36, 37, 38, 39, 40, 41, 42, 43, 44, 45, 46] (by decide +kernel) (by decide +kernel)
set_option maxRecDepth 20000 in
theorem gX5_settledAt_X5_isClaim : GoodIn wsX5_settledAt (wsV RX5 105 RX5 yX5_isClaim wsX5_isClaim) := goodIn_app (goodIn_of _ (by decide +kernel)) ggX5_settledAt_X5_isClaim
set_option maxRecDepth 20000 in
theorem ggX5_settledAt_X5_isFine : GoodIn wsX5_settledAt wsX5_isFine := goodIn_r _ [14, 15, 16, 17, 18, 19, 20, 21, 22, 23, 24, 25, 26, 27, 28, 29, 30, 31, 32, 33, 34, 35, 36, 37, 38, 39, 40, 41, 42, 43, 44, 45, 46] (by decide +kernel) (by decide +kernel)
set_option maxRecDepth 20000 in
theorem gX5_settledAt_X5_isFine : GoodIn wsX5_settledAt (wsV RX5 70 RX5 yX5_isFine wsX5_isFine) := goodIn_app (goodIn_of _ (by decide +kernel)) ggX5_settledAt_X5_isFine
theorem dX5_settledAt_0 : decode cX5_settledAt 0 = .ok (.aload_n 0, 1) := by decide +kernel
theorem dX5_settledAt_1 : decode cX5_settledAt 1 = .ok (.aload_n 0, 1) := by decide +kernel
theorem dX5_settledAt_2 : decode cX5_settledAt 2 = .ok (.iload_n 1, 1) := by decide +kernel
theorem dX5_settledAt_3 : decode cX5_settledAt 3 = .ok (.invokevirtual 105, 3) := by decide +kernel
theorem dX5_settledAt_6 : decode cX5_settledAt 6 = .ok (.ifCond .eq 7, 3) := by decide +kernel
theorem dX5_settledAt_9 : decode cX5_settledAt 9 = .ok (.iconst 0, 1) := by decide +kernel
theorem dX5_settledAt_10 : decode cX5_settledAt 10 = .ok (.goto 4, 3) := by decide +kernel
theorem dX5_settledAt_13 : decode cX5_settledAt 13 = .ok (.iconst 1, 1) := by decide +kernel
theorem dX5_settledAt_14 : decode cX5_settledAt 14 = .ok (.invokevirtual 70, 3) := by decide +kernel
theorem dX5_settledAt_17 : decode cX5_settledAt 17 = .ok (.ifCond .eq 12, 3) := by decide +kernel
theorem dX5_settledAt_20 : decode cX5_settledAt 20 = .ok (.aload_n 0, 1) := by decide +kernel
theorem dX5_settledAt_21 : decode cX5_settledAt 21 = .ok (.getfield 47, 3) := by decide +kernel
theorem dX5_settledAt_24 : decode cX5_settledAt 24 = .ok (.iload_n 1, 1) := by decide +kernel
theorem dX5_settledAt_25 : decode cX5_settledAt 25 = .ok (.iaload, 1) := by decide +kernel
theorem dX5_settledAt_26 : decode cX5_settledAt 26 = .ok (.goto 4, 3) := by decide +kernel
theorem dX5_settledAt_29 : decode cX5_settledAt 29 = .ok (.iconst 0, 1) := by decide +kernel
theorem dX5_settledAt_30 : decode cX5_settledAt 30 = .ok (.ireturn, 1) := by decide +kernel
set_option maxRecDepth 20000 in
theorem ggX5_isMet_X5_in : GoodIn wsX5_isMet wsX5_in := goodIn_r _ [5] (by decide +kernel) (by decide +kernel)
set_option maxRecDepth 20000 in
theorem gX5_isMet_X5_in : GoodIn wsX5_isMet (va_wsS RX5 61 yX5_in wsX5_in) := goodIn_app (goodIn_of _ (by decide +kernel)) ggX5_isMet_X5_in
set_option maxRecDepth 20000 in
theorem ggX5_isMet_X5_isFine : GoodIn wsX5_isMet wsX5_isFine := goodIn_r _ [9, 10, 11, 12, 13, 14, 15, 16, 17, 18, 19, 20, 21, 22, 23, 24, 25, 26, 27, 28, 29, 30, 31, 32, 33, 34, 35, 36, 37, 38, 39, 40, 41] (by decide +kernel) (by decide +kernel)
set_option maxRecDepth 20000 in
theorem gX5_isMet_X5_isFine : GoodIn wsX5_isMet (wsV RX5 70 RX5 yX5_isFine wsX5_isFine) := goodIn_app (goodIn_of _ (by decide +kernel)) ggX5_isMet_X5_isFine
theorem dX5_isMet_0 : decode cX5_isMet 0 = .ok (.aload_n 0, 1) := by decide +kernel
theorem dX5_isMet_1 : decode cX5_isMet 1 = .ok (.iload_n 1, 1) := by decide +kernel
theorem dX5_isMet_2 : decode cX5_isMet 2 = .ok (.iconst 0, 1) := by decide +kernel
theorem dX5_isMet_3 : decode cX5_isMet 3 = .ok (.iconst 3, 1) := by decide +kernel
theorem dX5_isMet_4 : decode cX5_isMet 4 = .ok (.invokestatic 61, 3) := by decide +kernel
theorem dX5_isMet_7 : decode cX5_isMet 7 = .ok (.ifCond .eq 7, 3) := by decide +kernel
theorem dX5_isMet_10 : decode cX5_isMet 10 = .ok (.iconst 0, 1) := by decide +kernel
theorem dX5_isMet_11 : decode cX5_isMet 11 = .ok (.goto 4, 3) := by decide +kernel
theorem dX5_isMet_14 : decode cX5_isMet 14 = .ok (.iconst 1, 1) := by decide +kernel
theorem dX5_isMet_15 : decode cX5_isMet 15 = .ok (.invokevirtual 70, 3) := by decide +kernel
theorem dX5_isMet_18 : decode cX5_isMet 18 = .ok (.ifCond .eq 16, 3) := by decide +kernel
theorem dX5_isMet_21 : decode cX5_isMet 21 = .ok (.aload_n 0, 1) := by decide +kernel
theorem dX5_isMet_22 : decode cX5_isMet 22 = .ok (.getfield 53, 3) := by decide +kernel
theorem dX5_isMet_25 : decode cX5_isMet 25 = .ok (.iload_n 1, 1) := by decide +kernel
theorem dX5_isMet_26 : decode cX5_isMet 26 = .ok (.baload, 1) := by decide +kernel
theorem dX5_isMet_27 : decode cX5_isMet 27 = .ok (.ifCond .eq 7, 3) := by decide +kernel
theorem dX5_isMet_30 : decode cX5_isMet 30 = .ok (.iconst 1, 1) := by decide +kernel
theorem dX5_isMet_31 : decode cX5_isMet 31 = .ok (.goto 4, 3) := by decide +kernel
theorem dX5_isMet_34 : decode cX5_isMet 34 = .ok (.iconst 0, 1) := by decide +kernel
theorem dX5_isMet_35 : decode cX5_isMet 35 = .ok (.ireturn, 1) := by decide +kernel
theorem dJ9_max_7cf53_0 : decode cJ9_max_7cf53 0 = .ok (.iload_n 0, 1) := by decide +kernel
theorem dJ9_max_7cf53_1 : decode cJ9_max_7cf53 1 = .ok (.iload_n 1, 1) := by decide +kernel
theorem dJ9_max_7cf53_2 : decode cJ9_max_7cf53 2 = .ok (.if_icmp .lt 7, 3) := by decide +kernel
theorem dJ9_max_7cf53_5 : decode cJ9_max_7cf53 5 = .ok (.iload_n 0, 1) := by decide +kernel
theorem dJ9_max_7cf53_6 : decode cJ9_max_7cf53 6 = .ok (.goto 4, 3) := by decide +kernel
theorem dJ9_max_7cf53_9 : decode cJ9_max_7cf53 9 = .ok (.iload_n 1, 1) := by decide +kernel
theorem dJ9_max_7cf53_10 : decode cJ9_max_7cf53 10 = .ok (.ireturn, 1) := by decide +kernel
theorem dJ9_min_7cf53_0 : decode cJ9_min_7cf53 0 = .ok (.iload_n 0, 1) := by decide +kernel
theorem dJ9_min_7cf53_1 : decode cJ9_min_7cf53 1 = .ok (.iload_n 1, 1) := by decide +kernel
theorem dJ9_min_7cf53_2 : decode cJ9_min_7cf53 2 = .ok (.if_icmp .gt 7, 3) := by decide +kernel
theorem dJ9_min_7cf53_5 : decode cJ9_min_7cf53 5 = .ok (.iload_n 0, 1) := by decide +kernel
theorem dJ9_min_7cf53_6 : decode cJ9_min_7cf53 6 = .ok (.goto 4, 3) := by decide +kernel
theorem dJ9_min_7cf53_9 : decode cJ9_min_7cf53 9 = .ok (.iload_n 1, 1) := by decide +kernel
theorem dJ9_min_7cf53_10 : decode cJ9_min_7cf53 10 = .ok (.ireturn, 1) := by decide +kernel
