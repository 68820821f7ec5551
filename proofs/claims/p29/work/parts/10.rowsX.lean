theorem dX0_init_0 : decode cX0_init 0 = .ok (.aload_n 0, 1) := by decide +kernel
theorem dX0_init_1 : decode cX0_init 1 = .ok (.invokespecial 3, 3) := by decide +kernel
theorem dX0_init_4 : decode cX0_init 4 = .ok (.aload_n 0, 1) := by decide +kernel
theorem dX0_init_5 : decode cX0_init 5 = .ok (.bipush 20, 2) := by decide +kernel
theorem dX0_init_7 : decode cX0_init 7 = .ok (.newarray .int, 2) := by decide +kernel
theorem dX0_init_9 : decode cX0_init 9 = .ok (.putfield 9, 3) := by decide +kernel
theorem dX0_init_12 : decode cX0_init 12 = .ok (.aload_n 0, 1) := by decide +kernel
theorem dX0_init_13 : decode cX0_init 13 = .ok (.bipush 20, 2) := by decide +kernel
theorem dX0_init_15 : decode cX0_init 15 = .ok (.newarray .int, 2) := by decide +kernel
theorem dX0_init_17 : decode cX0_init 17 = .ok (.putfield 15, 3) := by decide +kernel
theorem dX0_init_20 : decode cX0_init 20 = .ok (.aload_n 0, 1) := by decide +kernel
theorem dX0_init_21 : decode cX0_init 21 = .ok (.bipush 20, 2) := by decide +kernel
theorem dX0_init_23 : decode cX0_init 23 = .ok (.newarray .int, 2) := by decide +kernel
theorem dX0_init_25 : decode cX0_init 25 = .ok (.putfield 18, 3) := by decide +kernel
theorem dX0_init_28 : decode cX0_init 28 = .ok (.aload_n 0, 1) := by decide +kernel
theorem dX0_init_29 : decode cX0_init 29 = .ok (.bipush 20, 2) := by decide +kernel
theorem dX0_init_31 : decode cX0_init 31 = .ok (.newarray .int, 2) := by decide +kernel
theorem dX0_init_33 : decode cX0_init 33 = .ok (.putfield 21, 3) := by decide +kernel
theorem dX0_init_36 : decode cX0_init 36 = .ok (.return_, 1) := by decide +kernel
theorem dX0_settledSum_0 : decode cX0_settledSum 0 = .ok (.iconst 0, 1) := by decide +kernel
theorem dX0_settledSum_1 : decode cX0_settledSum 1 = .ok (.istore_n 3, 1) := by decide +kernel
theorem dX0_settledSum_2 : decode cX0_settledSum 2 = .ok (.iconst 0, 1) := by decide +kernel
theorem dX0_settledSum_3 : decode cX0_settledSum 3 = .ok (.istore 4, 2) := by decide +kernel
theorem dX0_settledSum_5 : decode cX0_settledSum 5 = .ok (.iload 4, 2) := by decide +kernel
theorem dX0_settledSum_7 : decode cX0_settledSum 7 = .ok (.aload_n 0, 1) := by decide +kernel
theorem dX0_settledSum_8 : decode cX0_settledSum 8 = .ok (.getfield 24, 3) := by decide +kernel
theorem dX0_settledSum_11 : decode cX0_settledSum 11 = .ok (.if_icmp .ge 52, 3) := by decide +kernel
theorem dX0_settledSum_14 : decode cX0_settledSum 14 = .ok (.aload_n 0, 1) := by decide +kernel
theorem dX0_settledSum_15 : decode cX0_settledSum 15 = .ok (.getfield 9, 3) := by decide +kernel
theorem dX0_settledSum_18 : decode cX0_settledSum 18 = .ok (.iload 4, 2) := by decide +kernel
theorem dX0_settledSum_20 : decode cX0_settledSum 20 = .ok (.iaload, 1) := by decide +kernel
theorem dX0_settledSum_21 : decode cX0_settledSum 21 = .ok (.iload_n 1, 1) := by decide +kernel
theorem dX0_settledSum_22 : decode cX0_settledSum 22 = .ok (.if_icmp .ne 35, 3) := by decide +kernel
theorem dX0_settledSum_25 : decode cX0_settledSum 25 = .ok (.aload_n 0, 1) := by decide +kernel
theorem dX0_settledSum_26 : decode cX0_settledSum 26 = .ok (.getfield 21, 3) := by decide +kernel
theorem dX0_settledSum_29 : decode cX0_settledSum 29 = .ok (.iload 4, 2) := by decide +kernel
theorem dX0_settledSum_31 : decode cX0_settledSum 31 = .ok (.iaload, 1) := by decide +kernel
theorem dX0_settledSum_32 : decode cX0_settledSum 32 = .ok (.iconst (-1), 1) := by decide +kernel
theorem dX0_settledSum_33 : decode cX0_settledSum 33 = .ok (.if_icmp .eq 24, 3) := by decide +kernel
theorem dX0_settledSum_36 : decode cX0_settledSum 36 = .ok (.aload_n 0, 1) := by decide +kernel
theorem dX0_settledSum_37 : decode cX0_settledSum 37 = .ok (.getfield 21, 3) := by decide +kernel
theorem dX0_settledSum_40 : decode cX0_settledSum 40 = .ok (.iload 4, 2) := by decide +kernel
theorem dX0_settledSum_42 : decode cX0_settledSum 42 = .ok (.iaload, 1) := by decide +kernel
theorem dX0_settledSum_43 : decode cX0_settledSum 43 = .ok (.iload_n 2, 1) := by decide +kernel
theorem dX0_settledSum_44 : decode cX0_settledSum 44 = .ok (.if_icmp .lt 13, 3) := by decide +kernel
theorem dX0_settledSum_47 : decode cX0_settledSum 47 = .ok (.iload_n 3, 1) := by decide +kernel
theorem dX0_settledSum_48 : decode cX0_settledSum 48 = .ok (.aload_n 0, 1) := by decide +kernel
theorem dX0_settledSum_49 : decode cX0_settledSum 49 = .ok (.getfield 21, 3) := by decide +kernel
theorem dX0_settledSum_52 : decode cX0_settledSum 52 = .ok (.iload 4, 2) := by decide +kernel
theorem dX0_settledSum_54 : decode cX0_settledSum 54 = .ok (.iaload, 1) := by decide +kernel
theorem dX0_settledSum_55 : decode cX0_settledSum 55 = .ok (.iadd, 1) := by decide +kernel
theorem dX0_settledSum_56 : decode cX0_settledSum 56 = .ok (.istore_n 3, 1) := by decide +kernel
theorem dX0_settledSum_57 : decode cX0_settledSum 57 = .ok (.iinc 4 1, 3) := by decide +kernel
theorem dX0_settledSum_60 : decode cX0_settledSum 60 = .ok (.goto (-55), 3) := by decide +kernel
theorem dX0_settledSum_63 : decode cX0_settledSum 63 = .ok (.iload_n 3, 1) := by decide +kernel
theorem dX0_settledSum_64 : decode cX0_settledSum 64 = .ok (.ireturn, 1) := by decide +kernel
theorem dX0_openSum_0 : decode cX0_openSum 0 = .ok (.iconst 0, 1) := by decide +kernel
theorem dX0_openSum_1 : decode cX0_openSum 1 = .ok (.istore_n 1, 1) := by decide +kernel
theorem dX0_openSum_2 : decode cX0_openSum 2 = .ok (.iconst 0, 1) := by decide +kernel
theorem dX0_openSum_3 : decode cX0_openSum 3 = .ok (.istore_n 2, 1) := by decide +kernel
theorem dX0_openSum_4 : decode cX0_openSum 4 = .ok (.iload_n 2, 1) := by decide +kernel
theorem dX0_openSum_5 : decode cX0_openSum 5 = .ok (.aload_n 0, 1) := by decide +kernel
theorem dX0_openSum_6 : decode cX0_openSum 6 = .ok (.getfield 24, 3) := by decide +kernel
theorem dX0_openSum_9 : decode cX0_openSum 9 = .ok (.if_icmp .ge 28, 3) := by decide +kernel
theorem dX0_openSum_12 : decode cX0_openSum 12 = .ok (.aload_n 0, 1) := by decide +kernel
theorem dX0_openSum_13 : decode cX0_openSum 13 = .ok (.getfield 21, 3) := by decide +kernel
theorem dX0_openSum_16 : decode cX0_openSum 16 = .ok (.iload_n 2, 1) := by decide +kernel
theorem dX0_openSum_17 : decode cX0_openSum 17 = .ok (.iaload, 1) := by decide +kernel
theorem dX0_openSum_18 : decode cX0_openSum 18 = .ok (.iconst (-1), 1) := by decide +kernel
theorem dX0_openSum_19 : decode cX0_openSum 19 = .ok (.if_icmp .ne 12, 3) := by decide +kernel
theorem dX0_openSum_22 : decode cX0_openSum 22 = .ok (.iload_n 1, 1) := by decide +kernel
theorem dX0_openSum_23 : decode cX0_openSum 23 = .ok (.aload_n 0, 1) := by decide +kernel
theorem dX0_openSum_24 : decode cX0_openSum 24 = .ok (.getfield 15, 3) := by decide +kernel
theorem dX0_openSum_27 : decode cX0_openSum 27 = .ok (.iload_n 2, 1) := by decide +kernel
theorem dX0_openSum_28 : decode cX0_openSum 28 = .ok (.iaload, 1) := by decide +kernel
theorem dX0_openSum_29 : decode cX0_openSum 29 = .ok (.iadd, 1) := by decide +kernel
theorem dX0_openSum_30 : decode cX0_openSum 30 = .ok (.istore_n 1, 1) := by decide +kernel
theorem dX0_openSum_31 : decode cX0_openSum 31 = .ok (.iinc 2 1, 3) := by decide +kernel
theorem dX0_openSum_34 : decode cX0_openSum 34 = .ok (.goto (-30), 3) := by decide +kernel
theorem dX0_openSum_37 : decode cX0_openSum 37 = .ok (.iload_n 1, 1) := by decide +kernel
theorem dX0_openSum_38 : decode cX0_openSum 38 = .ok (.ireturn, 1) := by decide +kernel
theorem dX1_init_0 : decode cX1_init 0 = .ok (.aload_n 0, 1) := by decide +kernel
theorem dX1_init_1 : decode cX1_init 1 = .ok (.invokespecial 3, 3) := by decide +kernel
theorem dX1_init_4 : decode cX1_init 4 = .ok (.aload_n 0, 1) := by decide +kernel
theorem dX1_init_5 : decode cX1_init 5 = .ok (.iconst 4, 1) := by decide +kernel
theorem dX1_init_6 : decode cX1_init 6 = .ok (.newarray .int, 2) := by decide +kernel
theorem dX1_init_8 : decode cX1_init 8 = .ok (.putfield 9, 3) := by decide +kernel
theorem dX1_init_11 : decode cX1_init 11 = .ok (.aload_n 0, 1) := by decide +kernel
theorem dX1_init_12 : decode cX1_init 12 = .ok (.iconst 4, 1) := by decide +kernel
theorem dX1_init_13 : decode cX1_init 13 = .ok (.newarray .int, 2) := by decide +kernel
theorem dX1_init_15 : decode cX1_init 15 = .ok (.putfield 15, 3) := by decide +kernel
theorem dX1_init_18 : decode cX1_init 18 = .ok (.aload_n 0, 1) := by decide +kernel
theorem dX1_init_19 : decode cX1_init 19 = .ok (.iconst 4, 1) := by decide +kernel
theorem dX1_init_20 : decode cX1_init 20 = .ok (.newarray .boolean, 2) := by decide +kernel
theorem dX1_init_22 : decode cX1_init 22 = .ok (.putfield 18, 3) := by decide +kernel
theorem dX1_init_25 : decode cX1_init 25 = .ok (.return_, 1) := by decide +kernel
set_option maxRecDepth 20000 in
theorem ggX1_tell_X1_meet : GoodIn wsX1_tell wsX1_meet := goodIn_r _ [10, 11, 12, 13, 14, 15, 16, 17, 18, 19, 20] (by decide +kernel) (by decide +kernel)
set_option maxRecDepth 20000 in
theorem gX1_tell_X1_meet : GoodIn wsX1_tell (wsV RX1 36 RX1 yX1_meet wsX1_meet) := goodIn_app (goodIn_of _ (by decide +kernel)) ggX1_tell_X1_meet
theorem dX1_tell_0 : decode cX1_tell 0 = .ok (.aload_n 0, 1) := by decide +kernel
theorem dX1_tell_1 : decode cX1_tell 1 = .ok (.getfield 22, 3) := by decide +kernel
theorem dX1_tell_4 : decode cX1_tell 4 = .ok (.istore_n 2, 1) := by decide +kernel
theorem dX1_tell_5 : decode cX1_tell 5 = .ok (.iload_n 2, 1) := by decide +kernel
theorem dX1_tell_6 : decode cX1_tell 6 = .ok (.iconst 4, 1) := by decide +kernel
theorem dX1_tell_7 : decode cX1_tell 7 = .ok (.if_icmp .lt 5, 3) := by decide +kernel
theorem dX1_tell_10 : decode cX1_tell 10 = .ok (.iconst 0, 1) := by decide +kernel
theorem dX1_tell_11 : decode cX1_tell 11 = .ok (.ireturn, 1) := by decide +kernel
theorem dX1_tell_12 : decode cX1_tell 12 = .ok (.aload_n 0, 1) := by decide +kernel
theorem dX1_tell_13 : decode cX1_tell 13 = .ok (.iload_n 2, 1) := by decide +kernel
theorem dX1_tell_14 : decode cX1_tell 14 = .ok (.iconst 1, 1) := by decide +kernel
theorem dX1_tell_15 : decode cX1_tell 15 = .ok (.iadd, 1) := by decide +kernel
theorem dX1_tell_16 : decode cX1_tell 16 = .ok (.putfield 22, 3) := by decide +kernel
theorem dX1_tell_19 : decode cX1_tell 19 = .ok (.aload_n 0, 1) := by decide +kernel
theorem dX1_tell_20 : decode cX1_tell 20 = .ok (.dup, 1) := by decide +kernel
theorem dX1_tell_21 : decode cX1_tell 21 = .ok (.getfield 26, 3) := by decide +kernel
theorem dX1_tell_24 : decode cX1_tell 24 = .ok (.iload_n 1, 1) := by decide +kernel
theorem dX1_tell_25 : decode cX1_tell 25 = .ok (.iadd, 1) := by decide +kernel
theorem dX1_tell_26 : decode cX1_tell 26 = .ok (.putfield 26, 3) := by decide +kernel
theorem dX1_tell_29 : decode cX1_tell 29 = .ok (.aload_n 0, 1) := by decide +kernel
theorem dX1_tell_30 : decode cX1_tell 30 = .ok (.dup, 1) := by decide +kernel
theorem dX1_tell_31 : decode cX1_tell 31 = .ok (.getfield 29, 3) := by decide +kernel
theorem dX1_tell_34 : decode cX1_tell 34 = .ok (.aload_n 0, 1) := by decide +kernel
theorem dX1_tell_35 : decode cX1_tell 35 = .ok (.getfield 9, 3) := by decide +kernel
theorem dX1_tell_38 : decode cX1_tell 38 = .ok (.iload_n 2, 1) := by decide +kernel
theorem dX1_tell_39 : decode cX1_tell 39 = .ok (.iaload, 1) := by decide +kernel
theorem dX1_tell_40 : decode cX1_tell 40 = .ok (.iadd, 1) := by decide +kernel
theorem dX1_tell_41 : decode cX1_tell 41 = .ok (.putfield 29, 3) := by decide +kernel
theorem dX1_tell_44 : decode cX1_tell 44 = .ok (.aload_n 0, 1) := by decide +kernel
theorem dX1_tell_45 : decode cX1_tell 45 = .ok (.getfield 32, 3) := by decide +kernel
theorem dX1_tell_48 : decode cX1_tell 48 = .ok (.ifCond .eq 24, 3) := by decide +kernel
theorem dX1_tell_51 : decode cX1_tell 51 = .ok (.aload_n 0, 1) := by decide +kernel
theorem dX1_tell_52 : decode cX1_tell 52 = .ok (.getfield 26, 3) := by decide +kernel
theorem dX1_tell_55 : decode cX1_tell 55 = .ok (.aload_n 0, 1) := by decide +kernel
theorem dX1_tell_56 : decode cX1_tell 56 = .ok (.getfield 29, 3) := by decide +kernel
theorem dX1_tell_59 : decode cX1_tell 59 = .ok (.if_icmp .lt 13, 3) := by decide +kernel
theorem dX1_tell_62 : decode cX1_tell 62 = .ok (.aload_n 0, 1) := by decide +kernel
theorem dX1_tell_63 : decode cX1_tell 63 = .ok (.iconst 0, 1) := by decide +kernel
theorem dX1_tell_64 : decode cX1_tell 64 = .ok (.aload_n 0, 1) := by decide +kernel
theorem dX1_tell_65 : decode cX1_tell 65 = .ok (.getfield 22, 3) := by decide +kernel
theorem dX1_tell_68 : decode cX1_tell 68 = .ok (.invokevirtual 36, 3) := by decide +kernel
theorem dX1_tell_71 : decode cX1_tell 71 = .ok (.ireturn, 1) := by decide +kernel
theorem dX1_tell_72 : decode cX1_tell 72 = .ok (.iload_n 1, 1) := by decide +kernel
theorem dX1_tell_73 : decode cX1_tell 73 = .ok (.aload_n 0, 1) := by decide +kernel
theorem dX1_tell_74 : decode cX1_tell 74 = .ok (.getfield 9, 3) := by decide +kernel
theorem dX1_tell_77 : decode cX1_tell 77 = .ok (.iload_n 2, 1) := by decide +kernel
theorem dX1_tell_78 : decode cX1_tell 78 = .ok (.iaload, 1) := by decide +kernel
theorem dX1_tell_79 : decode cX1_tell 79 = .ok (.if_icmp .lt 15, 3) := by decide +kernel
theorem dX1_tell_82 : decode cX1_tell 82 = .ok (.aload_n 0, 1) := by decide +kernel
theorem dX1_tell_83 : decode cX1_tell 83 = .ok (.iload_n 2, 1) := by decide +kernel
theorem dX1_tell_84 : decode cX1_tell 84 = .ok (.aload_n 0, 1) := by decide +kernel
theorem dX1_tell_85 : decode cX1_tell 85 = .ok (.getfield 22, 3) := by decide +kernel
theorem dX1_tell_88 : decode cX1_tell 88 = .ok (.invokevirtual 36, 3) := by decide +kernel
theorem dX1_tell_91 : decode cX1_tell 91 = .ok (.goto 4, 3) := by decide +kernel
theorem dX1_tell_94 : decode cX1_tell 94 = .ok (.iconst 0, 1) := by decide +kernel
theorem dX1_tell_95 : decode cX1_tell 95 = .ok (.ireturn, 1) := by decide +kernel
set_option maxRecDepth 20000 in
theorem ggX1_hasten_X1_meet : GoodIn wsX1_hasten wsX1_meet := goodIn_r _ [7, 8, 9, 10, 11, 12, 13, 14, 15, 16, 17] (by decide +kernel) (by decide +kernel)
set_option maxRecDepth 20000 in
theorem gX1_hasten_X1_meet : GoodIn wsX1_hasten (wsV RX1 36 RX1 yX1_meet wsX1_meet) := goodIn_app (goodIn_of _ (by decide +kernel)) ggX1_hasten_X1_meet
theorem dX1_hasten_0 : decode cX1_hasten 0 = .ok (.aload_n 0, 1) := by decide +kernel
theorem dX1_hasten_1 : decode cX1_hasten 1 = .ok (.iconst 1, 1) := by decide +kernel
theorem dX1_hasten_2 : decode cX1_hasten 2 = .ok (.putfield 40, 3) := by decide +kernel
theorem dX1_hasten_5 : decode cX1_hasten 5 = .ok (.aload_n 0, 1) := by decide +kernel
theorem dX1_hasten_6 : decode cX1_hasten 6 = .ok (.aload_n 0, 1) := by decide +kernel
theorem dX1_hasten_7 : decode cX1_hasten 7 = .ok (.getfield 22, 3) := by decide +kernel
theorem dX1_hasten_10 : decode cX1_hasten 10 = .ok (.iconst 4, 1) := by decide +kernel
theorem dX1_hasten_11 : decode cX1_hasten 11 = .ok (.invokevirtual 36, 3) := by decide +kernel
theorem dX1_hasten_14 : decode cX1_hasten 14 = .ok (.ireturn, 1) := by decide +kernel
theorem dX1_meet_0 : decode cX1_meet 0 = .ok (.iconst 0, 1) := by decide +kernel
theorem dX1_meet_1 : decode cX1_meet 1 = .ok (.istore_n 3, 1) := by decide +kernel
theorem dX1_meet_2 : decode cX1_meet 2 = .ok (.iload_n 1, 1) := by decide +kernel
theorem dX1_meet_3 : decode cX1_meet 3 = .ok (.istore 4, 2) := by decide +kernel
theorem dX1_meet_5 : decode cX1_meet 5 = .ok (.iload 4, 2) := by decide +kernel
theorem dX1_meet_7 : decode cX1_meet 7 = .ok (.iload_n 2, 1) := by decide +kernel
theorem dX1_meet_8 : decode cX1_meet 8 = .ok (.if_icmp .ge 37, 3) := by decide +kernel
theorem dX1_meet_11 : decode cX1_meet 11 = .ok (.aload_n 0, 1) := by decide +kernel
theorem dX1_meet_12 : decode cX1_meet 12 = .ok (.getfield 18, 3) := by decide +kernel
theorem dX1_meet_15 : decode cX1_meet 15 = .ok (.iload 4, 2) := by decide +kernel
theorem dX1_meet_17 : decode cX1_meet 17 = .ok (.baload, 1) := by decide +kernel
theorem dX1_meet_18 : decode cX1_meet 18 = .ok (.ifCond .ne 21, 3) := by decide +kernel
theorem dX1_meet_21 : decode cX1_meet 21 = .ok (.aload_n 0, 1) := by decide +kernel
theorem dX1_meet_22 : decode cX1_meet 22 = .ok (.getfield 18, 3) := by decide +kernel
theorem dX1_meet_25 : decode cX1_meet 25 = .ok (.iload 4, 2) := by decide +kernel
theorem dX1_meet_27 : decode cX1_meet 27 = .ok (.iconst 1, 1) := by decide +kernel
theorem dX1_meet_28 : decode cX1_meet 28 = .ok (.bastore, 1) := by decide +kernel
theorem dX1_meet_29 : decode cX1_meet 29 = .ok (.iload_n 3, 1) := by decide +kernel
theorem dX1_meet_30 : decode cX1_meet 30 = .ok (.aload_n 0, 1) := by decide +kernel
theorem dX1_meet_31 : decode cX1_meet 31 = .ok (.getfield 15, 3) := by decide +kernel
theorem dX1_meet_34 : decode cX1_meet 34 = .ok (.iload 4, 2) := by decide +kernel
theorem dX1_meet_36 : decode cX1_meet 36 = .ok (.iaload, 1) := by decide +kernel
theorem dX1_meet_37 : decode cX1_meet 37 = .ok (.iadd, 1) := by decide +kernel
theorem dX1_meet_38 : decode cX1_meet 38 = .ok (.istore_n 3, 1) := by decide +kernel
theorem dX1_meet_39 : decode cX1_meet 39 = .ok (.iinc 4 1, 3) := by decide +kernel
theorem dX1_meet_42 : decode cX1_meet 42 = .ok (.goto (-37), 3) := by decide +kernel
theorem dX1_meet_45 : decode cX1_meet 45 = .ok (.iload_n 3, 1) := by decide +kernel
theorem dX1_meet_46 : decode cX1_meet 46 = .ok (.ireturn, 1) := by decide +kernel
theorem dX2_init_0 : decode cX2_init 0 = .ok (.aload_n 0, 1) := by decide +kernel
theorem dX2_init_1 : decode cX2_init 1 = .ok (.invokespecial 3, 3) := by decide +kernel
theorem dX2_init_4 : decode cX2_init 4 = .ok (.aload_n 0, 1) := by decide +kernel
theorem dX2_init_5 : decode cX2_init 5 = .ok (.iconst 4, 1) := by decide +kernel
theorem dX2_init_6 : decode cX2_init 6 = .ok (.newarray .int, 2) := by decide +kernel
theorem dX2_init_8 : decode cX2_init 8 = .ok (.putfield 9, 3) := by decide +kernel
theorem dX2_init_11 : decode cX2_init 11 = .ok (.aload_n 0, 1) := by decide +kernel
theorem dX2_init_12 : decode cX2_init 12 = .ok (.iconst 4, 1) := by decide +kernel
theorem dX2_init_13 : decode cX2_init 13 = .ok (.newarray .int, 2) := by decide +kernel
theorem dX2_init_15 : decode cX2_init 15 = .ok (.putfield 15, 3) := by decide +kernel
theorem dX2_init_18 : decode cX2_init 18 = .ok (.return_, 1) := by decide +kernel
theorem dX2_total_0 : decode cX2_total 0 = .ok (.iconst 0, 1) := by decide +kernel
theorem dX2_total_1 : decode cX2_total 1 = .ok (.istore_n 1, 1) := by decide +kernel
theorem dX2_total_2 : decode cX2_total 2 = .ok (.iconst 0, 1) := by decide +kernel
theorem dX2_total_3 : decode cX2_total 3 = .ok (.istore_n 2, 1) := by decide +kernel
theorem dX2_total_4 : decode cX2_total 4 = .ok (.iload_n 2, 1) := by decide +kernel
theorem dX2_total_5 : decode cX2_total 5 = .ok (.iconst 4, 1) := by decide +kernel
theorem dX2_total_6 : decode cX2_total 6 = .ok (.if_icmp .ge 18, 3) := by decide +kernel
theorem dX2_total_9 : decode cX2_total 9 = .ok (.iload_n 1, 1) := by decide +kernel
theorem dX2_total_10 : decode cX2_total 10 = .ok (.aload_n 0, 1) := by decide +kernel
theorem dX2_total_11 : decode cX2_total 11 = .ok (.getfield 9, 3) := by decide +kernel
theorem dX2_total_14 : decode cX2_total 14 = .ok (.iload_n 2, 1) := by decide +kernel
theorem dX2_total_15 : decode cX2_total 15 = .ok (.iaload, 1) := by decide +kernel
theorem dX2_total_16 : decode cX2_total 16 = .ok (.iadd, 1) := by decide +kernel
theorem dX2_total_17 : decode cX2_total 17 = .ok (.istore_n 1, 1) := by decide +kernel
theorem dX2_total_18 : decode cX2_total 18 = .ok (.iinc 2 1, 3) := by decide +kernel
theorem dX2_total_21 : decode cX2_total 21 = .ok (.goto (-17), 3) := by decide +kernel
theorem dX2_total_24 : decode cX2_total 24 = .ok (.iload_n 1, 1) := by decide +kernel
theorem dX2_total_25 : decode cX2_total 25 = .ok (.ireturn, 1) := by decide +kernel
theorem dX2_totalAfter_0 : decode cX2_totalAfter 0 = .ok (.iconst 0, 1) := by decide +kernel
theorem dX2_totalAfter_1 : decode cX2_totalAfter 1 = .ok (.istore_n 2, 1) := by decide +kernel
theorem dX2_totalAfter_2 : decode cX2_totalAfter 2 = .ok (.iconst 0, 1) := by decide +kernel
theorem dX2_totalAfter_3 : decode cX2_totalAfter 3 = .ok (.istore_n 3, 1) := by decide +kernel
theorem dX2_totalAfter_4 : decode cX2_totalAfter 4 = .ok (.iload_n 3, 1) := by decide +kernel
theorem dX2_totalAfter_5 : decode cX2_totalAfter 5 = .ok (.iconst 4, 1) := by decide +kernel
theorem dX2_totalAfter_6 : decode cX2_totalAfter 6 = .ok (.if_icmp .ge 28, 3) := by decide +kernel
theorem dX2_totalAfter_9 : decode cX2_totalAfter 9 = .ok (.aload_n 0, 1) := by decide +kernel
theorem dX2_totalAfter_10 : decode cX2_totalAfter 10 = .ok (.getfield 15, 3) := by decide +kernel
theorem dX2_totalAfter_13 : decode cX2_totalAfter 13 = .ok (.iload_n 3, 1) := by decide +kernel
theorem dX2_totalAfter_14 : decode cX2_totalAfter 14 = .ok (.iaload, 1) := by decide +kernel
theorem dX2_totalAfter_15 : decode cX2_totalAfter 15 = .ok (.iload_n 1, 1) := by decide +kernel
theorem dX2_totalAfter_16 : decode cX2_totalAfter 16 = .ok (.if_icmp .le 12, 3) := by decide +kernel
theorem dX2_totalAfter_19 : decode cX2_totalAfter 19 = .ok (.iload_n 2, 1) := by decide +kernel
theorem dX2_totalAfter_20 : decode cX2_totalAfter 20 = .ok (.aload_n 0, 1) := by decide +kernel
theorem dX2_totalAfter_21 : decode cX2_totalAfter 21 = .ok (.getfield 9, 3) := by decide +kernel
theorem dX2_totalAfter_24 : decode cX2_totalAfter 24 = .ok (.iload_n 3, 1) := by decide +kernel
theorem dX2_totalAfter_25 : decode cX2_totalAfter 25 = .ok (.iaload, 1) := by decide +kernel
theorem dX2_totalAfter_26 : decode cX2_totalAfter 26 = .ok (.iadd, 1) := by decide +kernel
theorem dX2_totalAfter_27 : decode cX2_totalAfter 27 = .ok (.istore_n 2, 1) := by decide +kernel
theorem dX2_totalAfter_28 : decode cX2_totalAfter 28 = .ok (.iinc 3 1, 3) := by decide +kernel
theorem dX2_totalAfter_31 : decode cX2_totalAfter 31 = .ok (.goto (-27), 3) := by decide +kernel
theorem dX2_totalAfter_34 : decode cX2_totalAfter 34 = .ok (.iload_n 2, 1) := by decide +kernel
theorem dX2_totalAfter_35 : decode cX2_totalAfter 35 = .ok (.ireturn, 1) := by decide +kernel
theorem dX3_init_0 : decode cX3_init 0 = .ok (.aload_n 0, 1) := by decide +kernel
theorem dX3_init_1 : decode cX3_init 1 = .ok (.invokespecial 3, 3) := by decide +kernel
theorem dX3_init_4 : decode cX3_init 4 = .ok (.aload_n 0, 1) := by decide +kernel
theorem dX3_init_5 : decode cX3_init 5 = .ok (.iconst 3, 1) := by decide +kernel
theorem dX3_init_6 : decode cX3_init 6 = .ok (.newarray .int, 2) := by decide +kernel
theorem dX3_init_8 : decode cX3_init 8 = .ok (.putfield 9, 3) := by decide +kernel
theorem dX3_init_11 : decode cX3_init 11 = .ok (.aload_n 0, 1) := by decide +kernel
theorem dX3_init_12 : decode cX3_init 12 = .ok (.iconst 3, 1) := by decide +kernel
theorem dX3_init_13 : decode cX3_init 13 = .ok (.newarray .int, 2) := by decide +kernel
theorem dX3_init_15 : decode cX3_init 15 = .ok (.putfield 15, 3) := by decide +kernel
theorem dX3_init_18 : decode cX3_init 18 = .ok (.aload_n 0, 1) := by decide +kernel
theorem dX3_init_19 : decode cX3_init 19 = .ok (.iconst 3, 1) := by decide +kernel
theorem dX3_init_20 : decode cX3_init 20 = .ok (.newarray .boolean, 2) := by decide +kernel
theorem dX3_init_22 : decode cX3_init 22 = .ok (.putfield 18, 3) := by decide +kernel
theorem dX3_init_25 : decode cX3_init 25 = .ok (.aload_n 0, 1) := by decide +kernel
theorem dX3_init_26 : decode cX3_init 26 = .ok (.iconst 3, 1) := by decide +kernel
theorem dX3_init_27 : decode cX3_init 27 = .ok (.newarray .int, 2) := by decide +kernel
theorem dX3_init_29 : decode cX3_init 29 = .ok (.putfield 22, 3) := by decide +kernel
theorem dX3_init_32 : decode cX3_init 32 = .ok (.aload_n 0, 1) := by decide +kernel
theorem dX3_init_33 : decode cX3_init 33 = .ok (.iconst 3, 1) := by decide +kernel
theorem dX3_init_34 : decode cX3_init 34 = .ok (.newarray .int, 2) := by decide +kernel
theorem dX3_init_36 : decode cX3_init 36 = .ok (.putfield 25, 3) := by decide +kernel
theorem dX3_init_39 : decode cX3_init 39 = .ok (.return_, 1) := by decide +kernel
set_option maxRecDepth 20000 in
theorem ggX3_limit_X3_pastBasket : GoodIn wsX3_limit wsX3_pastBasket := goodIn_r _ [10, 11, 12, 13, 14, 15, 16, 17] (by decide +kernel) (by decide +kernel)
set_option maxRecDepth 20000 in
theorem gX3_limit_X3_pastBasket : GoodIn wsX3_limit (wsV RX3 28 RX3 yX3_pastBasket wsX3_pastBasket) := goodIn_app (goodIn_of _ (by decide +kernel)) ggX3_limit_X3_pastBasket
theorem dX3_limit_0 : decode cX3_limit 0 = .ok (.aload_n 0, 1) := by decide +kernel
theorem dX3_limit_1 : decode cX3_limit 1 = .ok (.iload_n 1, 1) := by decide +kernel
theorem dX3_limit_2 : decode cX3_limit 2 = .ok (.iload_n 2, 1) := by decide +kernel
theorem dX3_limit_3 : decode cX3_limit 3 = .ok (.invokevirtual 28, 3) := by decide +kernel
theorem dX3_limit_6 : decode cX3_limit 6 = .ok (.aload_n 0, 1) := by decide +kernel
theorem dX3_limit_7 : decode cX3_limit 7 = .ok (.getfield 22, 3) := by decide +kernel
theorem dX3_limit_10 : decode cX3_limit 10 = .ok (.iload_n 1, 1) := by decide +kernel
theorem dX3_limit_11 : decode cX3_limit 11 = .ok (.iaload, 1) := by decide +kernel
theorem dX3_limit_12 : decode cX3_limit 12 = .ok (.invokestatic 32, 3) := by decide +kernel
theorem dX3_limit_15 : decode cX3_limit 15 = .ok (.ireturn, 1) := by decide +kernel
theorem dX3_pastBasket_0 : decode cX3_pastBasket 0 = .ok (.aload_n 0, 1) := by decide +kernel
theorem dX3_pastBasket_1 : decode cX3_pastBasket 1 = .ok (.getfield 15, 3) := by decide +kernel
theorem dX3_pastBasket_4 : decode cX3_pastBasket 4 = .ok (.iload_n 1, 1) := by decide +kernel
theorem dX3_pastBasket_5 : decode cX3_pastBasket 5 = .ok (.iaload, 1) := by decide +kernel
theorem dX3_pastBasket_6 : decode cX3_pastBasket 6 = .ok (.istore_n 3, 1) := by decide +kernel
theorem dX3_pastBasket_7 : decode cX3_pastBasket 7 = .ok (.aload_n 0, 1) := by decide +kernel
theorem dX3_pastBasket_8 : decode cX3_pastBasket 8 = .ok (.getfield 18, 3) := by decide +kernel
theorem dX3_pastBasket_11 : decode cX3_pastBasket 11 = .ok (.iload_n 1, 1) := by decide +kernel
theorem dX3_pastBasket_12 : decode cX3_pastBasket 12 = .ok (.baload, 1) := by decide +kernel
theorem dX3_pastBasket_13 : decode cX3_pastBasket 13 = .ok (.ifCond .eq 14, 3) := by decide +kernel
theorem dX3_pastBasket_16 : decode cX3_pastBasket 16 = .ok (.iload_n 2, 1) := by decide +kernel
theorem dX3_pastBasket_17 : decode cX3_pastBasket 17 = .ok (.iload_n 3, 1) := by decide +kernel
theorem dX3_pastBasket_18 : decode cX3_pastBasket 18 = .ok (.if_icmp .lt 7, 3) := by decide +kernel
theorem dX3_pastBasket_21 : decode cX3_pastBasket 21 = .ok (.iload_n 2, 1) := by decide +kernel
theorem dX3_pastBasket_22 : decode cX3_pastBasket 22 = .ok (.goto 4, 3) := by decide +kernel
theorem dX3_pastBasket_25 : decode cX3_pastBasket 25 = .ok (.iconst 0, 1) := by decide +kernel
theorem dX3_pastBasket_26 : decode cX3_pastBasket 26 = .ok (.ireturn, 1) := by decide +kernel
theorem dX3_pastBasket_27 : decode cX3_pastBasket 27 = .ok (.iload_n 2, 1) := by decide +kernel
theorem dX3_pastBasket_28 : decode cX3_pastBasket 28 = .ok (.iload_n 3, 1) := by decide +kernel
theorem dX3_pastBasket_29 : decode cX3_pastBasket 29 = .ok (.if_icmp .le 9, 3) := by decide +kernel
theorem dX3_pastBasket_32 : decode cX3_pastBasket 32 = .ok (.iload_n 2, 1) := by decide +kernel
theorem dX3_pastBasket_33 : decode cX3_pastBasket 33 = .ok (.iload_n 3, 1) := by decide +kernel
theorem dX3_pastBasket_34 : decode cX3_pastBasket 34 = .ok (.isub, 1) := by decide +kernel
theorem dX3_pastBasket_35 : decode cX3_pastBasket 35 = .ok (.goto 4, 3) := by decide +kernel
theorem dX3_pastBasket_38 : decode cX3_pastBasket 38 = .ok (.iconst 0, 1) := by decide +kernel
theorem dX3_pastBasket_39 : decode cX3_pastBasket 39 = .ok (.ireturn, 1) := by decide +kernel
set_option maxRecDepth 20000 in
theorem ggX4_init_X2_init : GoodIn wsX4_init wsX2_init := goodIn_r _ [24, 25, 2, 3, 26, 27, 28, 54, 55] (by decide +kernel) (by decide +kernel)
set_option maxRecDepth 20000 in
theorem gX4_init_X2_init : GoodIn wsX4_init (wsX2_init) := ggX4_init_X2_init
set_option maxRecDepth 20000 in
theorem ggX4_init_X3_init : GoodIn wsX4_init wsX3_init := goodIn_r _ [31, 32, 2, 3, 26, 33, 34, 35, 36, 37, 38, 70, 71, 72, 73, 74] (by decide +kernel) (by decide +kernel)
set_option maxRecDepth 20000 in
theorem gX4_init_X3_init : GoodIn wsX4_init (wsX3_init) := ggX4_init_X3_init
set_option maxRecDepth 20000 in
theorem ggX4_init_X0_init : GoodIn wsX4_init wsX0_init := goodIn_r _ [41, 42, 2, 3, 26, 43, 44, 45, 46, 75, 76, 77, 78, 79] (by decide +kernel) (by decide +kernel)
set_option maxRecDepth 20000 in
theorem gX4_init_X0_init : GoodIn wsX4_init (wsX0_init) := ggX4_init_X0_init
set_option maxRecDepth 20000 in
theorem ggX4_init_X1_init : GoodIn wsX4_init wsX1_init := goodIn_r _ [49, 50, 2, 3, 26, 51, 52, 35, 53, 80, 81, 82, 83, 84, 85, 86, 87] (by decide +kernel) (by decide +kernel)
set_option maxRecDepth 20000 in
theorem gX4_init_X1_init : GoodIn wsX4_init (wsX1_init) := ggX4_init_X1_init
theorem dX4_init_0 : decode cX4_init 0 = .ok (.aload_n 0, 1) := by decide +kernel
theorem dX4_init_1 : decode cX4_init 1 = .ok (.invokespecial 1, 3) := by decide +kernel
theorem dX4_init_4 : decode cX4_init 4 = .ok (.aload_n 0, 1) := by decide +kernel
theorem dX4_init_5 : decode cX4_init 5 = .ok (.new 7, 3) := by decide +kernel
theorem dX4_init_8 : decode cX4_init 8 = .ok (.dup, 1) := by decide +kernel
theorem dX4_init_9 : decode cX4_init 9 = .ok (.invokespecial 9, 3) := by decide +kernel
theorem dX4_init_12 : decode cX4_init 12 = .ok (.putfield 10, 3) := by decide +kernel
theorem dX4_init_15 : decode cX4_init 15 = .ok (.aload_n 0, 1) := by decide +kernel
theorem dX4_init_16 : decode cX4_init 16 = .ok (.new 16, 3) := by decide +kernel
theorem dX4_init_19 : decode cX4_init 19 = .ok (.dup, 1) := by decide +kernel
theorem dX4_init_20 : decode cX4_init 20 = .ok (.invokespecial 18, 3) := by decide +kernel
theorem dX4_init_23 : decode cX4_init 23 = .ok (.putfield 19, 3) := by decide +kernel
theorem dX4_init_26 : decode cX4_init 26 = .ok (.aload_n 0, 1) := by decide +kernel
theorem dX4_init_27 : decode cX4_init 27 = .ok (.new 23, 3) := by decide +kernel
theorem dX4_init_30 : decode cX4_init 30 = .ok (.dup, 1) := by decide +kernel
theorem dX4_init_31 : decode cX4_init 31 = .ok (.invokespecial 25, 3) := by decide +kernel
theorem dX4_init_34 : decode cX4_init 34 = .ok (.putfield 26, 3) := by decide +kernel
theorem dX4_init_37 : decode cX4_init 37 = .ok (.aload_n 0, 1) := by decide +kernel
theorem dX4_init_38 : decode cX4_init 38 = .ok (.new 30, 3) := by decide +kernel
theorem dX4_init_41 : decode cX4_init 41 = .ok (.dup, 1) := by decide +kernel
theorem dX4_init_42 : decode cX4_init 42 = .ok (.invokespecial 32, 3) := by decide +kernel
theorem dX4_init_45 : decode cX4_init 45 = .ok (.putfield 33, 3) := by decide +kernel
theorem dX4_init_48 : decode cX4_init 48 = .ok (.aload_n 0, 1) := by decide +kernel
theorem dX4_init_49 : decode cX4_init 49 = .ok (.iconst (-1), 1) := by decide +kernel
theorem dX4_init_50 : decode cX4_init 50 = .ok (.putfield 37, 3) := by decide +kernel
theorem dX4_init_53 : decode cX4_init 53 = .ok (.aload_n 0, 1) := by decide +kernel
theorem dX4_init_54 : decode cX4_init 54 = .ok (.iconst (-1), 1) := by decide +kernel
theorem dX4_init_55 : decode cX4_init 55 = .ok (.putfield 41, 3) := by decide +kernel
theorem dX4_init_58 : decode cX4_init 58 = .ok (.return_, 1) := by decide +kernel
set_option maxRecDepth 20000 in
theorem ggX4_setPrice_X4_checkRange : GoodIn wsX4_setPrice wsX4_checkRange := goodIn_ca (goodIn_r _ [9, 10, 11] (by decide +kernel) (by decide +kernel)) (goodIn_sub (fun _ h => List.mem_cons_of_mem _ (List.mem_append_left _ (List.mem_append_right _ h))) (by decide +kernel))
set_option maxRecDepth 20000 in
theorem gX4_setPrice_X4_checkRange : GoodIn wsX4_setPrice (va_wsS RX4 45 yX4_checkRange wsX4_checkRange) := goodIn_app (goodIn_of _ (by decide +kernel)) ggX4_setPrice_X4_checkRange
set_option maxRecDepth 20000 in
theorem ggX4_setPrice_X4_checkNotClosed : GoodIn wsX4_setPrice wsX4_checkNotClosed := goodIn_ca (goodIn_r _ [15, 16, 17, 18, 19, 20, 21, 22, 23, 24, 25, 26, 27, 28, 29, 30, 31, 32] (by decide +kernel) (by decide +kernel)) (goodIn_sub (fun _ h => List.mem_cons_of_mem _ (List.mem_append_right _ h)) (by decide +kernel))
set_option maxRecDepth 20000 in
theorem gX4_setPrice_X4_checkNotClosed : GoodIn wsX4_setPrice (wsV RX4 50 RX4 yX4_checkNotClosed wsX4_checkNotClosed) := goodIn_app (goodIn_of _ (by decide +kernel)) ggX4_setPrice_X4_checkNotClosed
theorem dX4_setPrice_0 : decode cX4_setPrice 0 = .ok (.iload_n 1, 1) := by decide +kernel
theorem dX4_setPrice_1 : decode cX4_setPrice 1 = .ok (.iconst 0, 1) := by decide +kernel
theorem dX4_setPrice_2 : decode cX4_setPrice 2 = .ok (.ldc 44, 2) := by decide +kernel
theorem dX4_setPrice_4 : decode cX4_setPrice 4 = .ok (.invokestatic 45, 3) := by decide +kernel
theorem dX4_setPrice_7 : decode cX4_setPrice 7 = .ok (.iload_n 2, 1) := by decide +kernel
theorem dX4_setPrice_8 : decode cX4_setPrice 8 = .ok (.ldc 49, 2) := by decide +kernel
theorem dX4_setPrice_10 : decode cX4_setPrice 10 = .ok (.ldc 44, 2) := by decide +kernel
theorem dX4_setPrice_12 : decode cX4_setPrice 12 = .ok (.invokestatic 45, 3) := by decide +kernel
theorem dX4_setPrice_15 : decode cX4_setPrice 15 = .ok (.iload_n 3, 1) := by decide +kernel
theorem dX4_setPrice_16 : decode cX4_setPrice 16 = .ok (.iconst 0, 1) := by decide +kernel
theorem dX4_setPrice_17 : decode cX4_setPrice 17 = .ok (.ldc 44, 2) := by decide +kernel
theorem dX4_setPrice_19 : decode cX4_setPrice 19 = .ok (.invokestatic 45, 3) := by decide +kernel
theorem dX4_setPrice_22 : decode cX4_setPrice 22 = .ok (.aload_n 0, 1) := by decide +kernel
theorem dX4_setPrice_23 : decode cX4_setPrice 23 = .ok (.invokevirtual 50, 3) := by decide +kernel
theorem dX4_setPrice_26 : decode cX4_setPrice 26 = .ok (.aload_n 0, 1) := by decide +kernel
theorem dX4_setPrice_27 : decode cX4_setPrice 27 = .ok (.iload_n 1, 1) := by decide +kernel
theorem dX4_setPrice_28 : decode cX4_setPrice 28 = .ok (.putfield 53, 3) := by decide +kernel
theorem dX4_setPrice_31 : decode cX4_setPrice 31 = .ok (.aload_n 0, 1) := by decide +kernel
theorem dX4_setPrice_32 : decode cX4_setPrice 32 = .ok (.iload_n 2, 1) := by decide +kernel
theorem dX4_setPrice_33 : decode cX4_setPrice 33 = .ok (.putfield 56, 3) := by decide +kernel
theorem dX4_setPrice_36 : decode cX4_setPrice 36 = .ok (.aload_n 0, 1) := by decide +kernel
theorem dX4_setPrice_37 : decode cX4_setPrice 37 = .ok (.iload_n 3, 1) := by decide +kernel
theorem dX4_setPrice_38 : decode cX4_setPrice 38 = .ok (.putfield 59, 3) := by decide +kernel
theorem dX4_setPrice_41 : decode cX4_setPrice 41 = .ok (.return_, 1) := by decide +kernel
set_option maxRecDepth 20000 in
theorem ggX4_setPart_X4_checkNumber : GoodIn wsX4_setPart wsX4_checkNumber := goodIn_ca (goodIn_r _ [8, 9, 10] (by decide +kernel) (by decide +kernel)) (goodIn_sub (fun _ h => List.mem_cons_of_mem _ (List.mem_append_left _ (List.mem_append_left _ (List.mem_append_right _ h)))) (by decide +kernel))
set_option maxRecDepth 20000 in
theorem gX4_setPart_X4_checkNumber : GoodIn wsX4_setPart (va_wsS RX4 62 yX4_checkNumber wsX4_checkNumber) := goodIn_app (goodIn_of _ (by decide +kernel)) ggX4_setPart_X4_checkNumber
set_option maxRecDepth 20000 in
theorem ggX4_setPart_X4_checkRange : GoodIn wsX4_setPart wsX4_checkRange := goodIn_ca (goodIn_r _ [13, 14, 15] (by decide +kernel) (by decide +kernel)) (goodIn_sub (fun _ h => List.mem_cons_of_mem _ (List.mem_append_left _ (List.mem_append_right _ h))) (by decide +kernel))
set_option maxRecDepth 20000 in
theorem gX4_setPart_X4_checkRange : GoodIn wsX4_setPart (va_wsS RX4 45 yX4_checkRange wsX4_checkRange) := goodIn_app (goodIn_of _ (by decide +kernel)) ggX4_setPart_X4_checkRange
set_option maxRecDepth 20000 in
theorem ggX4_setPart_X4_checkNotClosed : GoodIn wsX4_setPart wsX4_checkNotClosed := goodIn_ca (goodIn_r _ [19, 20, 21, 22, 23, 24, 25, 26, 27, 28, 29, 30, 31, 32, 33, 34, 35, 36] (by decide +kernel) (by decide +kernel)) (goodIn_sub (fun _ h => List.mem_cons_of_mem _ (List.mem_append_right _ h)) (by decide +kernel))
set_option maxRecDepth 20000 in
theorem gX4_setPart_X4_checkNotClosed : GoodIn wsX4_setPart (wsV RX4 50 RX4 yX4_checkNotClosed wsX4_checkNotClosed) := goodIn_app (goodIn_of _ (by decide +kernel)) ggX4_setPart_X4_checkNotClosed
theorem dX4_setPart_0 : decode cX4_setPart 0 = .ok (.iload_n 1, 1) := by decide +kernel
theorem dX4_setPart_1 : decode cX4_setPart 1 = .ok (.iconst 4, 1) := by decide +kernel
theorem dX4_setPart_2 : decode cX4_setPart 2 = .ok (.invokestatic 62, 3) := by decide +kernel
theorem dX4_setPart_5 : decode cX4_setPart 5 = .ok (.iload_n 2, 1) := by decide +kernel
theorem dX4_setPart_6 : decode cX4_setPart 6 = .ok (.iconst 0, 1) := by decide +kernel
theorem dX4_setPart_7 : decode cX4_setPart 7 = .ok (.ldc 44, 2) := by decide +kernel
theorem dX4_setPart_9 : decode cX4_setPart 9 = .ok (.invokestatic 45, 3) := by decide +kernel
theorem dX4_setPart_12 : decode cX4_setPart 12 = .ok (.iload_n 3, 1) := by decide +kernel
theorem dX4_setPart_13 : decode cX4_setPart 13 = .ok (.iconst 1, 1) := by decide +kernel
theorem dX4_setPart_14 : decode cX4_setPart 14 = .ok (.sipush 2000, 3) := by decide +kernel
theorem dX4_setPart_17 : decode cX4_setPart 17 = .ok (.invokestatic 45, 3) := by decide +kernel
theorem dX4_setPart_20 : decode cX4_setPart 20 = .ok (.aload_n 0, 1) := by decide +kernel
theorem dX4_setPart_21 : decode cX4_setPart 21 = .ok (.invokevirtual 50, 3) := by decide +kernel
theorem dX4_setPart_24 : decode cX4_setPart 24 = .ok (.aload_n 0, 1) := by decide +kernel
theorem dX4_setPart_25 : decode cX4_setPart 25 = .ok (.getfield 10, 3) := by decide +kernel
theorem dX4_setPart_28 : decode cX4_setPart 28 = .ok (.getfield 66, 3) := by decide +kernel
theorem dX4_setPart_31 : decode cX4_setPart 31 = .ok (.iload_n 1, 1) := by decide +kernel
theorem dX4_setPart_32 : decode cX4_setPart 32 = .ok (.iload_n 2, 1) := by decide +kernel
theorem dX4_setPart_33 : decode cX4_setPart 33 = .ok (.iastore, 1) := by decide +kernel
theorem dX4_setPart_34 : decode cX4_setPart 34 = .ok (.aload_n 0, 1) := by decide +kernel
theorem dX4_setPart_35 : decode cX4_setPart 35 = .ok (.getfield 10, 3) := by decide +kernel
theorem dX4_setPart_38 : decode cX4_setPart 38 = .ok (.getfield 70, 3) := by decide +kernel
theorem dX4_setPart_41 : decode cX4_setPart 41 = .ok (.iload_n 1, 1) := by decide +kernel
theorem dX4_setPart_42 : decode cX4_setPart 42 = .ok (.iload_n 3, 1) := by decide +kernel
theorem dX4_setPart_43 : decode cX4_setPart 43 = .ok (.iastore, 1) := by decide +kernel
theorem dX4_setPart_44 : decode cX4_setPart 44 = .ok (.return_, 1) := by decide +kernel
set_option maxRecDepth 20000 in
theorem ggX4_setKind_X4_checkNumber : GoodIn wsX4_setKind wsX4_checkNumber := goodIn_ca (goodIn_r _ [12, 13, 14] (by decide +kernel) (by decide +kernel)) (goodIn_sub (fun _ h => List.mem_cons_of_mem _ (List.mem_append_left _ (List.mem_append_left _ (List.mem_append_right _ h)))) (by decide +kernel))
set_option maxRecDepth 20000 in
theorem gX4_setKind_X4_checkNumber : GoodIn wsX4_setKind (va_wsS RX4 62 yX4_checkNumber wsX4_checkNumber) := goodIn_app (goodIn_of _ (by decide +kernel)) ggX4_setKind_X4_checkNumber
set_option maxRecDepth 20000 in
theorem ggX4_setKind_X4_checkRange : GoodIn wsX4_setKind wsX4_checkRange := goodIn_ca (goodIn_r _ [17, 18, 19] (by decide +kernel) (by decide +kernel)) (goodIn_sub (fun _ h => List.mem_cons_of_mem _ (List.mem_append_left _ (List.mem_append_right _ h))) (by decide +kernel))
set_option maxRecDepth 20000 in
theorem gX4_setKind_X4_checkRange : GoodIn wsX4_setKind (va_wsS RX4 45 yX4_checkRange wsX4_checkRange) := goodIn_app (goodIn_of _ (by decide +kernel)) ggX4_setKind_X4_checkRange
set_option maxRecDepth 20000 in
theorem ggX4_setKind_X4_checkNotClosed : GoodIn wsX4_setKind wsX4_checkNotClosed := goodIn_ca (goodIn_r _ [23, 24, 25, 26, 27, 28, 29, 30, 31, 32, 33, 34, 35, 36, 37, 38, 39, 40] (by decide +kernel) (by decide +kernel)) (goodIn_sub (fun _ h => List.mem_cons_of_mem _ (List.mem_append_right _ h)) (by decide +kernel))
set_option maxRecDepth 20000 in
theorem gX4_setKind_X4_checkNotClosed : GoodIn wsX4_setKind (wsV RX4 50 RX4 yX4_checkNotClosed wsX4_checkNotClosed) := goodIn_app (goodIn_of _ (by decide +kernel)) ggX4_setKind_X4_checkNotClosed
theorem dX4_setKind_0 : decode cX4_setKind 0 = .ok (.iload_n 1, 1) := by decide +kernel
theorem dX4_setKind_1 : decode cX4_setKind 1 = .ok (.iconst 3, 1) := by decide +kernel
theorem dX4_setKind_2 : decode cX4_setKind 2 = .ok (.invokestatic 62, 3) := by decide +kernel
theorem dX4_setKind_5 : decode cX4_setKind 5 = .ok (.iload_n 2, 1) := by decide +kernel
theorem dX4_setKind_6 : decode cX4_setKind 6 = .ok (.iconst 0, 1) := by decide +kernel
theorem dX4_setKind_7 : decode cX4_setKind 7 = .ok (.ldc 44, 2) := by decide +kernel
theorem dX4_setKind_9 : decode cX4_setKind 9 = .ok (.invokestatic 45, 3) := by decide +kernel
theorem dX4_setKind_12 : decode cX4_setKind 12 = .ok (.iload_n 3, 1) := by decide +kernel
theorem dX4_setKind_13 : decode cX4_setKind 13 = .ok (.iconst 0, 1) := by decide +kernel
theorem dX4_setKind_14 : decode cX4_setKind 14 = .ok (.ldc 44, 2) := by decide +kernel
theorem dX4_setKind_16 : decode cX4_setKind 16 = .ok (.invokestatic 45, 3) := by decide +kernel
theorem dX4_setKind_19 : decode cX4_setKind 19 = .ok (.iload 5, 2) := by decide +kernel
theorem dX4_setKind_21 : decode cX4_setKind 21 = .ok (.iconst 0, 1) := by decide +kernel
theorem dX4_setKind_22 : decode cX4_setKind 22 = .ok (.ldc 73, 2) := by decide +kernel
theorem dX4_setKind_24 : decode cX4_setKind 24 = .ok (.invokestatic 45, 3) := by decide +kernel
theorem dX4_setKind_27 : decode cX4_setKind 27 = .ok (.iload 6, 2) := by decide +kernel
theorem dX4_setKind_29 : decode cX4_setKind 29 = .ok (.iconst 0, 1) := by decide +kernel
theorem dX4_setKind_30 : decode cX4_setKind 30 = .ok (.sipush 2000, 3) := by decide +kernel
theorem dX4_setKind_33 : decode cX4_setKind 33 = .ok (.invokestatic 45, 3) := by decide +kernel
theorem dX4_setKind_36 : decode cX4_setKind 36 = .ok (.aload_n 0, 1) := by decide +kernel
theorem dX4_setKind_37 : decode cX4_setKind 37 = .ok (.invokevirtual 50, 3) := by decide +kernel
theorem dX4_setKind_40 : decode cX4_setKind 40 = .ok (.aload_n 0, 1) := by decide +kernel
theorem dX4_setKind_41 : decode cX4_setKind 41 = .ok (.getfield 19, 3) := by decide +kernel
theorem dX4_setKind_44 : decode cX4_setKind 44 = .ok (.getfield 74, 3) := by decide +kernel
theorem dX4_setKind_47 : decode cX4_setKind 47 = .ok (.iload_n 1, 1) := by decide +kernel
theorem dX4_setKind_48 : decode cX4_setKind 48 = .ok (.iload_n 2, 1) := by decide +kernel
theorem dX4_setKind_49 : decode cX4_setKind 49 = .ok (.iastore, 1) := by decide +kernel
theorem dX4_setKind_50 : decode cX4_setKind 50 = .ok (.aload_n 0, 1) := by decide +kernel
theorem dX4_setKind_51 : decode cX4_setKind 51 = .ok (.getfield 19, 3) := by decide +kernel
theorem dX4_setKind_54 : decode cX4_setKind 54 = .ok (.getfield 77, 3) := by decide +kernel
theorem dX4_setKind_57 : decode cX4_setKind 57 = .ok (.iload_n 1, 1) := by decide +kernel
theorem dX4_setKind_58 : decode cX4_setKind 58 = .ok (.iload_n 3, 1) := by decide +kernel
theorem dX4_setKind_59 : decode cX4_setKind 59 = .ok (.iastore, 1) := by decide +kernel
theorem dX4_setKind_60 : decode cX4_setKind 60 = .ok (.aload_n 0, 1) := by decide +kernel
theorem dX4_setKind_61 : decode cX4_setKind 61 = .ok (.getfield 19, 3) := by decide +kernel
theorem dX4_setKind_64 : decode cX4_setKind 64 = .ok (.getfield 80, 3) := by decide +kernel
theorem dX4_setKind_67 : decode cX4_setKind 67 = .ok (.iload_n 1, 1) := by decide +kernel
theorem dX4_setKind_68 : decode cX4_setKind 68 = .ok (.iload 4, 2) := by decide +kernel
theorem dX4_setKind_70 : decode cX4_setKind 70 = .ok (.bastore, 1) := by decide +kernel
theorem dX4_setKind_71 : decode cX4_setKind 71 = .ok (.aload_n 0, 1) := by decide +kernel
theorem dX4_setKind_72 : decode cX4_setKind 72 = .ok (.getfield 19, 3) := by decide +kernel
theorem dX4_setKind_75 : decode cX4_setKind 75 = .ok (.getfield 84, 3) := by decide +kernel
theorem dX4_setKind_78 : decode cX4_setKind 78 = .ok (.iload_n 1, 1) := by decide +kernel
theorem dX4_setKind_79 : decode cX4_setKind 79 = .ok (.iload 5, 2) := by decide +kernel
theorem dX4_setKind_81 : decode cX4_setKind 81 = .ok (.iastore, 1) := by decide +kernel
theorem dX4_setKind_82 : decode cX4_setKind 82 = .ok (.aload_n 0, 1) := by decide +kernel
theorem dX4_setKind_83 : decode cX4_setKind 83 = .ok (.getfield 19, 3) := by decide +kernel
theorem dX4_setKind_86 : decode cX4_setKind 86 = .ok (.getfield 87, 3) := by decide +kernel
theorem dX4_setKind_89 : decode cX4_setKind 89 = .ok (.iload_n 1, 1) := by decide +kernel
theorem dX4_setKind_90 : decode cX4_setKind 90 = .ok (.iload 6, 2) := by decide +kernel
theorem dX4_setKind_92 : decode cX4_setKind 92 = .ok (.iastore, 1) := by decide +kernel
theorem dX4_setKind_93 : decode cX4_setKind 93 = .ok (.return_, 1) := by decide +kernel
set_option maxRecDepth 20000 in
theorem ggX4_setYear_X4_checkNumber : GoodIn wsX4_setYear wsX4_checkNumber := goodIn_ca (goodIn_r _ [8, 9, 10] (by decide +kernel) (by decide +kernel)) (goodIn_sub (fun _ h => List.mem_cons_of_mem _ (List.mem_append_left _ (List.mem_append_left _ (List.mem_append_right _ h)))) (by decide +kernel))
set_option maxRecDepth 20000 in
theorem gX4_setYear_X4_checkNumber : GoodIn wsX4_setYear (va_wsS RX4 62 yX4_checkNumber wsX4_checkNumber) := goodIn_app (goodIn_of _ (by decide +kernel)) ggX4_setYear_X4_checkNumber
set_option maxRecDepth 20000 in
theorem ggX4_setYear_X4_checkRange : GoodIn wsX4_setYear wsX4_checkRange := goodIn_ca (goodIn_r _ [13, 14, 15] (by decide +kernel) (by decide +kernel)) (goodIn_sub (fun _ h => List.mem_cons_of_mem _ (List.mem_append_left _ (List.mem_append_right _ h))) (by decide +kernel))
set_option maxRecDepth 20000 in
theorem gX4_setYear_X4_checkRange : GoodIn wsX4_setYear (va_wsS RX4 45 yX4_checkRange wsX4_checkRange) := goodIn_app (goodIn_of _ (by decide +kernel)) ggX4_setYear_X4_checkRange
set_option maxRecDepth 20000 in
theorem ggX4_setYear_X4_checkNotClosed : GoodIn wsX4_setYear wsX4_checkNotClosed := goodIn_ca (goodIn_r _ [19, 20, 21, 22, 23, 24, 25, 26, 27, 28, 29, 30, 31, 32, 33, 34, 35, 36] (by decide +kernel) (by decide +kernel)) (goodIn_sub (fun _ h => List.mem_cons_of_mem _ (List.mem_append_right _ h)) (by decide +kernel))
set_option maxRecDepth 20000 in
theorem gX4_setYear_X4_checkNotClosed : GoodIn wsX4_setYear (wsV RX4 50 RX4 yX4_checkNotClosed wsX4_checkNotClosed) := goodIn_app (goodIn_of _ (by decide +kernel)) ggX4_setYear_X4_checkNotClosed
theorem dX4_setYear_0 : decode cX4_setYear 0 = .ok (.iload_n 1, 1) := by decide +kernel
theorem dX4_setYear_1 : decode cX4_setYear 1 = .ok (.iconst 4, 1) := by decide +kernel
theorem dX4_setYear_2 : decode cX4_setYear 2 = .ok (.invokestatic 62, 3) := by decide +kernel
theorem dX4_setYear_5 : decode cX4_setYear 5 = .ok (.iload_n 2, 1) := by decide +kernel
theorem dX4_setYear_6 : decode cX4_setYear 6 = .ok (.iconst 0, 1) := by decide +kernel
theorem dX4_setYear_7 : decode cX4_setYear 7 = .ok (.ldc 44, 2) := by decide +kernel
theorem dX4_setYear_9 : decode cX4_setYear 9 = .ok (.invokestatic 45, 3) := by decide +kernel
theorem dX4_setYear_12 : decode cX4_setYear 12 = .ok (.iload_n 3, 1) := by decide +kernel
theorem dX4_setYear_13 : decode cX4_setYear 13 = .ok (.iconst 0, 1) := by decide +kernel
theorem dX4_setYear_14 : decode cX4_setYear 14 = .ok (.ldc 44, 2) := by decide +kernel
theorem dX4_setYear_16 : decode cX4_setYear 16 = .ok (.invokestatic 45, 3) := by decide +kernel
theorem dX4_setYear_19 : decode cX4_setYear 19 = .ok (.aload_n 0, 1) := by decide +kernel
theorem dX4_setYear_20 : decode cX4_setYear 20 = .ok (.invokevirtual 50, 3) := by decide +kernel
theorem dX4_setYear_23 : decode cX4_setYear 23 = .ok (.aload_n 0, 1) := by decide +kernel
theorem dX4_setYear_24 : decode cX4_setYear 24 = .ok (.getfield 33, 3) := by decide +kernel
theorem dX4_setYear_27 : decode cX4_setYear 27 = .ok (.getfield 90, 3) := by decide +kernel
theorem dX4_setYear_30 : decode cX4_setYear 30 = .ok (.iload_n 1, 1) := by decide +kernel
theorem dX4_setYear_31 : decode cX4_setYear 31 = .ok (.iload_n 2, 1) := by decide +kernel
theorem dX4_setYear_32 : decode cX4_setYear 32 = .ok (.iastore, 1) := by decide +kernel
theorem dX4_setYear_33 : decode cX4_setYear 33 = .ok (.aload_n 0, 1) := by decide +kernel
theorem dX4_setYear_34 : decode cX4_setYear 34 = .ok (.getfield 33, 3) := by decide +kernel
theorem dX4_setYear_37 : decode cX4_setYear 37 = .ok (.getfield 93, 3) := by decide +kernel
theorem dX4_setYear_40 : decode cX4_setYear 40 = .ok (.iload_n 1, 1) := by decide +kernel
theorem dX4_setYear_41 : decode cX4_setYear 41 = .ok (.iload_n 3, 1) := by decide +kernel
theorem dX4_setYear_42 : decode cX4_setYear 42 = .ok (.iastore, 1) := by decide +kernel
theorem dX4_setYear_43 : decode cX4_setYear 43 = .ok (.return_, 1) := by decide +kernel
set_option maxRecDepth 20000 in
theorem ggX4_setCarry_X4_checkNotClosed : GoodIn wsX4_setCarry wsX4_checkNotClosed := goodIn_ca (goodIn_r _ [7, 8, 9, 10, 11, 12, 13, 14, 15, 16, 17, 18, 19, 20, 21, 22, 23, 24] (by decide +kernel) (by decide +kernel)) (goodIn_sub (fun _ h => List.mem_cons_of_mem _ (List.mem_append_right _ h)) (by decide +kernel))
set_option maxRecDepth 20000 in
theorem gX4_setCarry_X4_checkNotClosed : GoodIn wsX4_setCarry (wsV RX4 50 RX4 yX4_checkNotClosed wsX4_checkNotClosed) := goodIn_app (goodIn_of _ (by decide +kernel)) ggX4_setCarry_X4_checkNotClosed
theorem dX4_setCarry_0 : decode cX4_setCarry 0 = .ok (.aload_n 0, 1) := by decide +kernel
theorem dX4_setCarry_1 : decode cX4_setCarry 1 = .ok (.invokevirtual 50, 3) := by decide +kernel
theorem dX4_setCarry_4 : decode cX4_setCarry 4 = .ok (.aload_n 0, 1) := by decide +kernel
theorem dX4_setCarry_5 : decode cX4_setCarry 5 = .ok (.getfield 33, 3) := by decide +kernel
theorem dX4_setCarry_8 : decode cX4_setCarry 8 = .ok (.iload_n 1, 1) := by decide +kernel
theorem dX4_setCarry_9 : decode cX4_setCarry 9 = .ok (.putfield 94, 3) := by decide +kernel
theorem dX4_setCarry_12 : decode cX4_setCarry 12 = .ok (.return_, 1) := by decide +kernel
set_option maxRecDepth 20000 in
theorem ggX4_close_X4_checkRange : GoodIn wsX4_close wsX4_checkRange := goodIn_ca (goodIn_r _ [20, 21, 22] (by decide +kernel) (by decide +kernel)) (goodIn_sub (fun _ h => List.mem_cons_of_mem _ (List.mem_append_left _ (List.mem_append_right _ h))) (by decide +kernel))
set_option maxRecDepth 20000 in
theorem gX4_close_X4_checkRange : GoodIn wsX4_close (va_wsS RX4 45 yX4_checkRange wsX4_checkRange) := goodIn_app (goodIn_of _ (by decide +kernel)) ggX4_close_X4_checkRange
set_option maxRecDepth 20000 in
theorem ggX4_close_X4_checkNotClosed : GoodIn wsX4_close wsX4_checkNotClosed := goodIn_ca (goodIn_r _ [26, 27, 28, 3, 40, 41, 42, 43, 44, 45, 46, 47, 48, 49, 50, 51, 52, 53] (by decide +kernel) (by decide +kernel)) (goodIn_sub (fun _ h => List.mem_cons_of_mem _ (List.mem_append_right _ h)) (by decide +kernel))
set_option maxRecDepth 20000 in
theorem gX4_close_X4_checkNotClosed : GoodIn wsX4_close (wsV RX4 50 RX4 yX4_checkNotClosed wsX4_checkNotClosed) := goodIn_app (goodIn_of _ (by decide +kernel)) ggX4_close_X4_checkNotClosed
set_option maxRecDepth 20000 in
theorem ggX4_close_X4_beyondCollar : GoodIn wsX4_close wsX4_beyondCollar := goodIn_r _ [32, 33, 40, 41, 42, 43, 44, 45, 46, 47, 48, 49, 50, 51, 52, 53] (by decide +kernel) (by decide +kernel)
set_option maxRecDepth 20000 in
theorem gX4_close_X4_beyondCollar : GoodIn wsX4_close (wsV RX4 98 RX4 yX4_beyondCollar wsX4_beyondCollar) := goodIn_app (goodIn_of _ (by decide +kernel)) ggX4_close_X4_beyondCollar
set_option maxRecDepth 20000 in
theorem ggX4_close_X2_total : GoodIn wsX4_close wsX2_total := goodIn_r _ [38, 39, 54, 55] (by decide +kernel) (by decide +kernel)
set_option maxRecDepth 20000 in
theorem gX4_close_X2_total : GoodIn wsX4_close (wsV RX4 108 RX2 yX2_total wsX2_total) := goodIn_app (goodIn_of _ (by decide +kernel)) ggX4_close_X2_total
theorem dX4_close_0 : decode cX4_close 0 = .ok (.iload_n 1, 1) := by decide +kernel
theorem dX4_close_1 : decode cX4_close 1 = .ok (.iconst 0, 1) := by decide +kernel
theorem dX4_close_2 : decode cX4_close 2 = .ok (.ldc 44, 2) := by decide +kernel
theorem dX4_close_4 : decode cX4_close 4 = .ok (.invokestatic 45, 3) := by decide +kernel
theorem dX4_close_7 : decode cX4_close 7 = .ok (.iload_n 2, 1) := by decide +kernel
theorem dX4_close_8 : decode cX4_close 8 = .ok (.iconst 0, 1) := by decide +kernel
theorem dX4_close_9 : decode cX4_close 9 = .ok (.ldc 44, 2) := by decide +kernel
theorem dX4_close_11 : decode cX4_close 11 = .ok (.invokestatic 45, 3) := by decide +kernel
theorem dX4_close_14 : decode cX4_close 14 = .ok (.iload_n 3, 1) := by decide +kernel
theorem dX4_close_15 : decode cX4_close 15 = .ok (.ldc 49, 2) := by decide +kernel
theorem dX4_close_17 : decode cX4_close 17 = .ok (.ldc 44, 2) := by decide +kernel
theorem dX4_close_19 : decode cX4_close 19 = .ok (.invokestatic 45, 3) := by decide +kernel
theorem dX4_close_22 : decode cX4_close 22 = .ok (.aload_n 0, 1) := by decide +kernel
theorem dX4_close_23 : decode cX4_close 23 = .ok (.invokevirtual 50, 3) := by decide +kernel
theorem dX4_close_26 : decode cX4_close 26 = .ok (.aload_n 0, 1) := by decide +kernel
theorem dX4_close_27 : decode cX4_close 27 = .ok (.iconst 0, 1) := by decide +kernel
theorem dX4_close_28 : decode cX4_close 28 = .ok (.putfield 37, 3) := by decide +kernel
theorem dX4_close_31 : decode cX4_close 31 = .ok (.aload_n 0, 1) := by decide +kernel
theorem dX4_close_32 : decode cX4_close 32 = .ok (.iconst 0, 1) := by decide +kernel
theorem dX4_close_33 : decode cX4_close 33 = .ok (.aload_n 0, 1) := by decide +kernel
theorem dX4_close_34 : decode cX4_close 34 = .ok (.getfield 53, 3) := by decide +kernel
theorem dX4_close_37 : decode cX4_close 37 = .ok (.iload_n 1, 1) := by decide +kernel
theorem dX4_close_38 : decode cX4_close 38 = .ok (.iadd, 1) := by decide +kernel
theorem dX4_close_39 : decode cX4_close 39 = .ok (.iload_n 2, 1) := by decide +kernel
theorem dX4_close_40 : decode cX4_close 40 = .ok (.isub, 1) := by decide +kernel
theorem dX4_close_41 : decode cX4_close 41 = .ok (.aload_n 0, 1) := by decide +kernel
theorem dX4_close_42 : decode cX4_close 42 = .ok (.iload_n 3, 1) := by decide +kernel
theorem dX4_close_43 : decode cX4_close 43 = .ok (.aload_n 0, 1) := by decide +kernel
theorem dX4_close_44 : decode cX4_close 44 = .ok (.getfield 56, 3) := by decide +kernel
theorem dX4_close_47 : decode cX4_close 47 = .ok (.isub, 1) := by decide +kernel
theorem dX4_close_48 : decode cX4_close 48 = .ok (.invokevirtual 98, 3) := by decide +kernel
theorem dX4_close_51 : decode cX4_close 51 = .ok (.iadd, 1) := by decide +kernel
theorem dX4_close_52 : decode cX4_close 52 = .ok (.invokestatic 102, 3) := by decide +kernel
theorem dX4_close_55 : decode cX4_close 55 = .ok (.putfield 41, 3) := by decide +kernel
theorem dX4_close_58 : decode cX4_close 58 = .ok (.aload_n 0, 1) := by decide +kernel
theorem dX4_close_59 : decode cX4_close 59 = .ok (.aload_n 0, 1) := by decide +kernel
theorem dX4_close_60 : decode cX4_close 60 = .ok (.getfield 10, 3) := by decide +kernel
theorem dX4_close_63 : decode cX4_close 63 = .ok (.invokevirtual 108, 3) := by decide +kernel
theorem dX4_close_66 : decode cX4_close 66 = .ok (.aload_n 0, 1) := by decide +kernel
theorem dX4_close_67 : decode cX4_close 67 = .ok (.getfield 41, 3) := by decide +kernel
theorem dX4_close_70 : decode cX4_close 70 = .ok (.invokestatic 112, 3) := by decide +kernel
theorem dX4_close_73 : decode cX4_close 73 = .ok (.putfield 115, 3) := by decide +kernel
theorem dX4_close_76 : decode cX4_close 76 = .ok (.aload_n 0, 1) := by decide +kernel
theorem dX4_close_77 : decode cX4_close 77 = .ok (.aload_n 0, 1) := by decide +kernel
theorem dX4_close_78 : decode cX4_close 78 = .ok (.getfield 41, 3) := by decide +kernel
theorem dX4_close_81 : decode cX4_close 81 = .ok (.aload_n 0, 1) := by decide +kernel
theorem dX4_close_82 : decode cX4_close 82 = .ok (.getfield 115, 3) := by decide +kernel
theorem dX4_close_85 : decode cX4_close 85 = .ok (.isub, 1) := by decide +kernel
theorem dX4_close_86 : decode cX4_close 86 = .ok (.putfield 118, 3) := by decide +kernel
theorem dX4_close_89 : decode cX4_close 89 = .ok (.aload_n 0, 1) := by decide +kernel
theorem dX4_close_90 : decode cX4_close 90 = .ok (.getfield 41, 3) := by decide +kernel
theorem dX4_close_93 : decode cX4_close 93 = .ok (.ireturn, 1) := by decide +kernel
set_option maxRecDepth 20000 in
theorem ggX4_advance_X4_checkRange : GoodIn wsX4_advance wsX4_checkRange := goodIn_ca (goodIn_r _ [7, 8, 9] (by decide +kernel) (by decide +kernel)) (goodIn_sub (fun _ h => List.mem_cons_of_mem _ (List.mem_append_right _ h)) (by decide +kernel))
set_option maxRecDepth 20000 in
theorem gX4_advance_X4_checkRange : GoodIn wsX4_advance (va_wsS RX4 45 yX4_checkRange wsX4_checkRange) := goodIn_app (goodIn_of _ (by decide +kernel)) ggX4_advance_X4_checkRange
set_option maxRecDepth 20000 in
theorem ggX4_advance_X4_checkClosed : GoodIn wsX4_advance wsX4_checkClosed := goodIn_ca (goodIn_r _ [13, 1, 2, 3, 37, 38, 39, 40, 41, 42, 43, 44, 45, 46, 47, 48, 49, 50] (by decide +kernel) (by decide +kernel)) (goodIn_sub (fun _ h => List.mem_cons_of_mem _ (List.mem_append_left _ (List.mem_append_right _ h))) (by decide +kernel))
set_option maxRecDepth 20000 in
theorem gX4_advance_X4_checkClosed : GoodIn wsX4_advance (wsV RX4 121 RX4 yX4_checkClosed wsX4_checkClosed) := goodIn_app (goodIn_of _ (by decide +kernel)) ggX4_advance_X4_checkClosed
set_option maxRecDepth 20000 in
theorem ggX4_advance_X4_free : GoodIn wsX4_advance wsX4_free := goodIn_r _ [17, 18, 3, 19, 20, 21, 22, 23, 24, 25, 26, 27, 28, 29, 30, 31, 32, 33, 34, 35, 36, 37, 38, 39, 40, 41, 42, 43, 44, 45, 46, 47, 48, 49, 50, 51, 52, 53, 54, 55, 56, 57] (by decide +kernel) (by decide +kernel)
set_option maxRecDepth 20000 in
theorem gX4_advance_X4_free : GoodIn wsX4_advance (wsV RX4 131 RX4 yX4_free wsX4_free) := goodIn_app (goodIn_of _ (by decide +kernel)) ggX4_advance_X4_free
theorem dX4_advance_0 : decode cX4_advance 0 = .ok (.iload_n 1, 1) := by decide +kernel
theorem dX4_advance_1 : decode cX4_advance 1 = .ok (.iconst 1, 1) := by decide +kernel
theorem dX4_advance_2 : decode cX4_advance 2 = .ok (.sipush 400, 3) := by decide +kernel
theorem dX4_advance_5 : decode cX4_advance 5 = .ok (.invokestatic 45, 3) := by decide +kernel
theorem dX4_advance_8 : decode cX4_advance 8 = .ok (.aload_n 0, 1) := by decide +kernel
theorem dX4_advance_9 : decode cX4_advance 9 = .ok (.invokevirtual 121, 3) := by decide +kernel
theorem dX4_advance_12 : decode cX4_advance 12 = .ok (.aload_n 0, 1) := by decide +kernel
theorem dX4_advance_13 : decode cX4_advance 13 = .ok (.getfield 37, 3) := by decide +kernel
theorem dX4_advance_16 : decode cX4_advance 16 = .ok (.iload_n 1, 1) := by decide +kernel
theorem dX4_advance_17 : decode cX4_advance 17 = .ok (.iadd, 1) := by decide +kernel
theorem dX4_advance_18 : decode cX4_advance 18 = .ok (.sipush 4000, 3) := by decide +kernel
theorem dX4_advance_21 : decode cX4_advance 21 = .ok (.if_icmp .le 13, 3) := by decide +kernel
theorem dX4_advance_24 : decode cX4_advance 24 = .ok (.new 124, 3) := by decide +kernel
theorem dX4_advance_27 : decode cX4_advance 27 = .ok (.dup, 1) := by decide +kernel
theorem dX4_advance_28 : decode cX4_advance 28 = .ok (.ldc 126, 2) := by decide +kernel
theorem dX4_advance_30 : decode cX4_advance 30 = .ok (.invokespecial 128, 3) := by decide +kernel
theorem dX4_advance_33 : decode cX4_advance 33 = .ok (.athrow, 1) := by decide +kernel
theorem dX4_advance_34 : decode cX4_advance 34 = .ok (.aload_n 0, 1) := by decide +kernel
theorem dX4_advance_35 : decode cX4_advance 35 = .ok (.dup, 1) := by decide +kernel
theorem dX4_advance_36 : decode cX4_advance 36 = .ok (.getfield 37, 3) := by decide +kernel
theorem dX4_advance_39 : decode cX4_advance 39 = .ok (.iload_n 1, 1) := by decide +kernel
theorem dX4_advance_40 : decode cX4_advance 40 = .ok (.iadd, 1) := by decide +kernel
theorem dX4_advance_41 : decode cX4_advance 41 = .ok (.putfield 37, 3) := by decide +kernel
theorem dX4_advance_44 : decode cX4_advance 44 = .ok (.aload_n 0, 1) := by decide +kernel
theorem dX4_advance_45 : decode cX4_advance 45 = .ok (.invokevirtual 131, 3) := by decide +kernel
theorem dX4_advance_48 : decode cX4_advance 48 = .ok (.aload_n 0, 1) := by decide +kernel
theorem dX4_advance_49 : decode cX4_advance 49 = .ok (.getfield 37, 3) := by decide +kernel
theorem dX4_advance_52 : decode cX4_advance 52 = .ok (.ireturn, 1) := by decide +kernel
set_option maxRecDepth 20000 in
theorem ggX4_claim_X4_checkNumber : GoodIn wsX4_claim wsX4_checkNumber := goodIn_ca (goodIn_r _ [16, 17, 18] (by decide +kernel) (by decide +kernel)) (goodIn_sub (fun _ h => List.mem_cons_of_mem _ (List.mem_append_left _ (List.mem_append_right _ h))) (by decide +kernel))
set_option maxRecDepth 20000 in
theorem gX4_claim_X4_checkNumber : GoodIn wsX4_claim (va_wsS RX4 62 yX4_checkNumber wsX4_checkNumber) := goodIn_app (goodIn_of _ (by decide +kernel)) ggX4_claim_X4_checkNumber
set_option maxRecDepth 20000 in
theorem ggX4_claim_X4_checkRange : GoodIn wsX4_claim wsX4_checkRange := goodIn_ca (goodIn_r _ [21, 22, 23] (by decide +kernel) (by decide +kernel)) (goodIn_sub (fun _ h => List.mem_cons_of_mem _ (List.mem_append_right _ h)) (by decide +kernel))
set_option maxRecDepth 20000 in
theorem gX4_claim_X4_checkRange : GoodIn wsX4_claim (va_wsS RX4 45 yX4_checkRange wsX4_checkRange) := goodIn_app (goodIn_of _ (by decide +kernel)) ggX4_claim_X4_checkRange
set_option maxRecDepth 20000 in
theorem ggX4_claim_X4_checkClosed : GoodIn wsX4_claim wsX4_checkClosed := goodIn_ca (goodIn_r _ [27, 1, 2, 4, 28, 29, 30, 31, 32, 33, 34, 35, 36, 37, 38, 39, 40, 41] (by decide +kernel) (by decide +kernel)) (goodIn_sub (fun _ h => List.mem_cons_of_mem _ (List.mem_append_left _ (List.mem_append_left _ (List.mem_append_right _ h)))) (by decide +kernel))
set_option maxRecDepth 20000 in
theorem gX4_claim_X4_checkClosed : GoodIn wsX4_claim (wsV RX4 121 RX4 yX4_checkClosed wsX4_checkClosed) := goodIn_app (goodIn_of _ (by decide +kernel)) ggX4_claim_X4_checkClosed
theorem dX4_claim_0 : decode cX4_claim 0 = .ok (.iload_n 1, 1) := by decide +kernel
theorem dX4_claim_1 : decode cX4_claim 1 = .ok (.iconst 3, 1) := by decide +kernel
theorem dX4_claim_2 : decode cX4_claim 2 = .ok (.invokestatic 62, 3) := by decide +kernel
theorem dX4_claim_5 : decode cX4_claim 5 = .ok (.iload_n 2, 1) := by decide +kernel
theorem dX4_claim_6 : decode cX4_claim 6 = .ok (.iconst 1, 1) := by decide +kernel
theorem dX4_claim_7 : decode cX4_claim 7 = .ok (.ldc 44, 2) := by decide +kernel
theorem dX4_claim_9 : decode cX4_claim 9 = .ok (.invokestatic 45, 3) := by decide +kernel
theorem dX4_claim_12 : decode cX4_claim 12 = .ok (.aload_n 0, 1) := by decide +kernel
theorem dX4_claim_13 : decode cX4_claim 13 = .ok (.invokevirtual 121, 3) := by decide +kernel
theorem dX4_claim_16 : decode cX4_claim 16 = .ok (.aload_n 0, 1) := by decide +kernel
theorem dX4_claim_17 : decode cX4_claim 17 = .ok (.getfield 37, 3) := by decide +kernel
theorem dX4_claim_20 : decode cX4_claim 20 = .ok (.aload_n 0, 1) := by decide +kernel
theorem dX4_claim_21 : decode cX4_claim 21 = .ok (.getfield 19, 3) := by decide +kernel
theorem dX4_claim_24 : decode cX4_claim 24 = .ok (.getfield 87, 3) := by decide +kernel
theorem dX4_claim_27 : decode cX4_claim 27 = .ok (.iload_n 1, 1) := by decide +kernel
theorem dX4_claim_28 : decode cX4_claim 28 = .ok (.iaload, 1) := by decide +kernel
theorem dX4_claim_29 : decode cX4_claim 29 = .ok (.if_icmp .le 13, 3) := by decide +kernel
theorem dX4_claim_32 : decode cX4_claim 32 = .ok (.new 124, 3) := by decide +kernel
theorem dX4_claim_35 : decode cX4_claim 35 = .ok (.dup, 1) := by decide +kernel
theorem dX4_claim_36 : decode cX4_claim 36 = .ok (.ldc 134, 2) := by decide +kernel
theorem dX4_claim_38 : decode cX4_claim 38 = .ok (.invokespecial 128, 3) := by decide +kernel
theorem dX4_claim_41 : decode cX4_claim 41 = .ok (.athrow, 1) := by decide +kernel
theorem dX4_claim_42 : decode cX4_claim 42 = .ok (.aload_n 0, 1) := by decide +kernel
theorem dX4_claim_43 : decode cX4_claim 43 = .ok (.getfield 26, 3) := by decide +kernel
theorem dX4_claim_46 : decode cX4_claim 46 = .ok (.getfield 136, 3) := by decide +kernel
theorem dX4_claim_49 : decode cX4_claim 49 = .ok (.istore_n 3, 1) := by decide +kernel
theorem dX4_claim_50 : decode cX4_claim 50 = .ok (.iload_n 3, 1) := by decide +kernel
theorem dX4_claim_51 : decode cX4_claim 51 = .ok (.bipush 20, 2) := by decide +kernel
theorem dX4_claim_53 : decode cX4_claim 53 = .ok (.if_icmp .lt 13, 3) := by decide +kernel
theorem dX4_claim_56 : decode cX4_claim 56 = .ok (.new 124, 3) := by decide +kernel
theorem dX4_claim_59 : decode cX4_claim 59 = .ok (.dup, 1) := by decide +kernel
theorem dX4_claim_60 : decode cX4_claim 60 = .ok (.ldc 139, 2) := by decide +kernel
theorem dX4_claim_62 : decode cX4_claim 62 = .ok (.invokespecial 128, 3) := by decide +kernel
theorem dX4_claim_65 : decode cX4_claim 65 = .ok (.athrow, 1) := by decide +kernel
theorem dX4_claim_66 : decode cX4_claim 66 = .ok (.aload_n 0, 1) := by decide +kernel
theorem dX4_claim_67 : decode cX4_claim 67 = .ok (.getfield 26, 3) := by decide +kernel
theorem dX4_claim_70 : decode cX4_claim 70 = .ok (.getfield 141, 3) := by decide +kernel
theorem dX4_claim_73 : decode cX4_claim 73 = .ok (.iload_n 3, 1) := by decide +kernel
theorem dX4_claim_74 : decode cX4_claim 74 = .ok (.iload_n 1, 1) := by decide +kernel
theorem dX4_claim_75 : decode cX4_claim 75 = .ok (.iastore, 1) := by decide +kernel
theorem dX4_claim_76 : decode cX4_claim 76 = .ok (.aload_n 0, 1) := by decide +kernel
theorem dX4_claim_77 : decode cX4_claim 77 = .ok (.getfield 26, 3) := by decide +kernel
theorem dX4_claim_80 : decode cX4_claim 80 = .ok (.getfield 143, 3) := by decide +kernel
theorem dX4_claim_83 : decode cX4_claim 83 = .ok (.iload_n 3, 1) := by decide +kernel
theorem dX4_claim_84 : decode cX4_claim 84 = .ok (.iload_n 2, 1) := by decide +kernel
theorem dX4_claim_85 : decode cX4_claim 85 = .ok (.iastore, 1) := by decide +kernel
theorem dX4_claim_86 : decode cX4_claim 86 = .ok (.aload_n 0, 1) := by decide +kernel
theorem dX4_claim_87 : decode cX4_claim 87 = .ok (.getfield 26, 3) := by decide +kernel
theorem dX4_claim_90 : decode cX4_claim 90 = .ok (.getfield 144, 3) := by decide +kernel
theorem dX4_claim_93 : decode cX4_claim 93 = .ok (.iload_n 3, 1) := by decide +kernel
theorem dX4_claim_94 : decode cX4_claim 94 = .ok (.iconst (-1), 1) := by decide +kernel
theorem dX4_claim_95 : decode cX4_claim 95 = .ok (.iastore, 1) := by decide +kernel
theorem dX4_claim_96 : decode cX4_claim 96 = .ok (.aload_n 0, 1) := by decide +kernel
theorem dX4_claim_97 : decode cX4_claim 97 = .ok (.getfield 26, 3) := by decide +kernel
theorem dX4_claim_100 : decode cX4_claim 100 = .ok (.getfield 147, 3) := by decide +kernel
theorem dX4_claim_103 : decode cX4_claim 103 = .ok (.iload_n 3, 1) := by decide +kernel
theorem dX4_claim_104 : decode cX4_claim 104 = .ok (.iconst (-1), 1) := by decide +kernel
theorem dX4_claim_105 : decode cX4_claim 105 = .ok (.iastore, 1) := by decide +kernel
theorem dX4_claim_106 : decode cX4_claim 106 = .ok (.aload_n 0, 1) := by decide +kernel
theorem dX4_claim_107 : decode cX4_claim 107 = .ok (.getfield 26, 3) := by decide +kernel
theorem dX4_claim_110 : decode cX4_claim 110 = .ok (.iload_n 3, 1) := by decide +kernel
theorem dX4_claim_111 : decode cX4_claim 111 = .ok (.iconst 1, 1) := by decide +kernel
theorem dX4_claim_112 : decode cX4_claim 112 = .ok (.iadd, 1) := by decide +kernel
theorem dX4_claim_113 : decode cX4_claim 113 = .ok (.putfield 136, 3) := by decide +kernel
theorem dX4_claim_116 : decode cX4_claim 116 = .ok (.iload_n 3, 1) := by decide +kernel
theorem dX4_claim_117 : decode cX4_claim 117 = .ok (.ireturn, 1) := by decide +kernel
set_option maxRecDepth 20000 in
theorem ggX4_offer_X4_checkNumber : GoodIn wsX4_offer wsX4_checkNumber := goodIn_ca (goodIn_r _ [9, 10, 11] (by decide +kernel) (by decide +kernel)) (goodIn_sub (fun _ h => List.mem_cons_of_mem _ (List.mem_append_left _ (List.mem_append_left _ (List.mem_append_right _ h)))) (by decide +kernel))
set_option maxRecDepth 20000 in
theorem gX4_offer_X4_checkNumber : GoodIn wsX4_offer (va_wsS RX4 62 yX4_checkNumber wsX4_checkNumber) := goodIn_app (goodIn_of _ (by decide +kernel)) ggX4_offer_X4_checkNumber
set_option maxRecDepth 20000 in
theorem ggX4_offer_X4_checkOpen : GoodIn wsX4_offer wsX4_checkOpen := goodIn_ca (goodIn_r _ [14, 15, 16] (by decide +kernel) (by decide +kernel)) (goodIn_sub (fun _ h => List.mem_cons_of_mem _ (List.mem_append_left _ (List.mem_append_right _ h))) (by decide +kernel))
set_option maxRecDepth 20000 in
theorem gX4_offer_X4_checkOpen : GoodIn wsX4_offer (va_wsS RX4 150 yX4_checkOpen wsX4_checkOpen) := goodIn_app (goodIn_of _ (by decide +kernel)) ggX4_offer_X4_checkOpen
set_option maxRecDepth 20000 in
theorem ggX4_offer_X4_checkRange : GoodIn wsX4_offer wsX4_checkRange := goodIn_ca (goodIn_r _ [19, 20, 21] (by decide +kernel) (by decide +kernel)) (goodIn_sub (fun _ h => List.mem_cons_of_mem _ (List.mem_append_right _ h)) (by decide +kernel))
set_option maxRecDepth 20000 in
theorem gX4_offer_X4_checkRange : GoodIn wsX4_offer (va_wsS RX4 45 yX4_checkRange wsX4_checkRange) := goodIn_app (goodIn_of _ (by decide +kernel)) ggX4_offer_X4_checkRange
theorem dX4_offer_0 : decode cX4_offer 0 = .ok (.iload_n 1, 1) := by decide +kernel
theorem dX4_offer_1 : decode cX4_offer 1 = .ok (.aload_n 0, 1) := by decide +kernel
theorem dX4_offer_2 : decode cX4_offer 2 = .ok (.getfield 26, 3) := by decide +kernel
theorem dX4_offer_5 : decode cX4_offer 5 = .ok (.getfield 136, 3) := by decide +kernel
theorem dX4_offer_8 : decode cX4_offer 8 = .ok (.invokestatic 62, 3) := by decide +kernel
theorem dX4_offer_11 : decode cX4_offer 11 = .ok (.aload_n 0, 1) := by decide +kernel
theorem dX4_offer_12 : decode cX4_offer 12 = .ok (.getfield 26, 3) := by decide +kernel
theorem dX4_offer_15 : decode cX4_offer 15 = .ok (.getfield 147, 3) := by decide +kernel
theorem dX4_offer_18 : decode cX4_offer 18 = .ok (.iload_n 1, 1) := by decide +kernel
theorem dX4_offer_19 : decode cX4_offer 19 = .ok (.iaload, 1) := by decide +kernel
theorem dX4_offer_20 : decode cX4_offer 20 = .ok (.invokestatic 150, 3) := by decide +kernel
theorem dX4_offer_23 : decode cX4_offer 23 = .ok (.iload_n 2, 1) := by decide +kernel
theorem dX4_offer_24 : decode cX4_offer 24 = .ok (.iconst 0, 1) := by decide +kernel
theorem dX4_offer_25 : decode cX4_offer 25 = .ok (.aload_n 0, 1) := by decide +kernel
theorem dX4_offer_26 : decode cX4_offer 26 = .ok (.getfield 26, 3) := by decide +kernel
theorem dX4_offer_29 : decode cX4_offer 29 = .ok (.getfield 143, 3) := by decide +kernel
theorem dX4_offer_32 : decode cX4_offer 32 = .ok (.iload_n 1, 1) := by decide +kernel
theorem dX4_offer_33 : decode cX4_offer 33 = .ok (.iaload, 1) := by decide +kernel
theorem dX4_offer_34 : decode cX4_offer 34 = .ok (.invokestatic 45, 3) := by decide +kernel
theorem dX4_offer_37 : decode cX4_offer 37 = .ok (.aload_n 0, 1) := by decide +kernel
theorem dX4_offer_38 : decode cX4_offer 38 = .ok (.getfield 26, 3) := by decide +kernel
theorem dX4_offer_41 : decode cX4_offer 41 = .ok (.getfield 144, 3) := by decide +kernel
theorem dX4_offer_44 : decode cX4_offer 44 = .ok (.iload_n 1, 1) := by decide +kernel
theorem dX4_offer_45 : decode cX4_offer 45 = .ok (.iaload, 1) := by decide +kernel
theorem dX4_offer_46 : decode cX4_offer 46 = .ok (.istore_n 3, 1) := by decide +kernel
theorem dX4_offer_47 : decode cX4_offer 47 = .ok (.aload_n 0, 1) := by decide +kernel
theorem dX4_offer_48 : decode cX4_offer 48 = .ok (.getfield 26, 3) := by decide +kernel
theorem dX4_offer_51 : decode cX4_offer 51 = .ok (.getfield 144, 3) := by decide +kernel
theorem dX4_offer_54 : decode cX4_offer 54 = .ok (.iload_n 1, 1) := by decide +kernel
theorem dX4_offer_55 : decode cX4_offer 55 = .ok (.iload_n 2, 1) := by decide +kernel
theorem dX4_offer_56 : decode cX4_offer 56 = .ok (.iastore, 1) := by decide +kernel
theorem dX4_offer_57 : decode cX4_offer 57 = .ok (.iload_n 3, 1) := by decide +kernel
theorem dX4_offer_58 : decode cX4_offer 58 = .ok (.ireturn, 1) := by decide +kernel
set_option maxRecDepth 20000 in
theorem ggX4_decide_X4_checkNumber : GoodIn wsX4_decide wsX4_checkNumber := goodIn_ca (goodIn_r _ [9, 10, 11] (by decide +kernel) (by decide +kernel)) (goodIn_sub (fun _ h => List.mem_cons_of_mem _ (List.mem_append_left _ (List.mem_append_left _ (List.mem_append_right _ h)))) (by decide +kernel))
set_option maxRecDepth 20000 in
theorem gX4_decide_X4_checkNumber : GoodIn wsX4_decide (va_wsS RX4 62 yX4_checkNumber wsX4_checkNumber) := goodIn_app (goodIn_of _ (by decide +kernel)) ggX4_decide_X4_checkNumber
set_option maxRecDepth 20000 in
theorem ggX4_decide_X4_checkOpen : GoodIn wsX4_decide wsX4_checkOpen := goodIn_ca (goodIn_r _ [14, 15, 16] (by decide +kernel) (by decide +kernel)) (goodIn_sub (fun _ h => List.mem_cons_of_mem _ (List.mem_append_left _ (List.mem_append_right _ h))) (by decide +kernel))
set_option maxRecDepth 20000 in
theorem gX4_decide_X4_checkOpen : GoodIn wsX4_decide (va_wsS RX4 150 yX4_checkOpen wsX4_checkOpen) := goodIn_app (goodIn_of _ (by decide +kernel)) ggX4_decide_X4_checkOpen
set_option maxRecDepth 20000 in
theorem ggX4_decide_X4_checkRange : GoodIn wsX4_decide wsX4_checkRange := goodIn_ca (goodIn_r _ [19, 20, 21] (by decide +kernel) (by decide +kernel)) (goodIn_sub (fun _ h => List.mem_cons_of_mem _ (List.mem_append_right _ h)) (by decide +kernel))
set_option maxRecDepth 20000 in
theorem gX4_decide_X4_checkRange : GoodIn wsX4_decide (va_wsS RX4 45 yX4_checkRange wsX4_checkRange) := goodIn_app (goodIn_of _ (by decide +kernel)) ggX4_decide_X4_checkRange
set_option maxRecDepth 20000 in
theorem ggX4_decide_X4_payOut : GoodIn wsX4_decide wsX4_payOut := goodIn_r _ [25, 26, 27, 28, 29, 30, 31, 32, 33, 34, 8, 35, 36, 37, 38, 39, 40, 41, 42, 43, 44, 45, 1, 46, 47, 48, 49, 50, 51, 52, 53, 54, 55, 56, 57, 58, 59, 60, 61, 62, 63, 64, 65, 66, 67, 68, 69, 70, 71, 72, 73, 74, 75, 76, 77, 78, 79, 80, 81, 82, 83, 84, 85, 86, 87, 88, 89, 90, 91, 92, 93, 94, 95, 96, 97, 98, 99, 100, 106, 107, 108, 109, 110, 101, 102, 103, 104, 105, 111, 112] (by decide +kernel) (by decide +kernel)
set_option maxRecDepth 20000 in
theorem gX4_decide_X4_payOut : GoodIn wsX4_decide (wsV RX4 156 RX4 yX4_payOut wsX4_payOut) := goodIn_app (goodIn_of _ (by decide +kernel)) ggX4_decide_X4_payOut
theorem dX4_decide_0 : decode cX4_decide 0 = .ok (.iload_n 1, 1) := by decide +kernel
theorem dX4_decide_1 : decode cX4_decide 1 = .ok (.aload_n 0, 1) := by decide +kernel
theorem dX4_decide_2 : decode cX4_decide 2 = .ok (.getfield 26, 3) := by decide +kernel
theorem dX4_decide_5 : decode cX4_decide 5 = .ok (.getfield 136, 3) := by decide +kernel
theorem dX4_decide_8 : decode cX4_decide 8 = .ok (.invokestatic 62, 3) := by decide +kernel
theorem dX4_decide_11 : decode cX4_decide 11 = .ok (.aload_n 0, 1) := by decide +kernel
theorem dX4_decide_12 : decode cX4_decide 12 = .ok (.getfield 26, 3) := by decide +kernel
theorem dX4_decide_15 : decode cX4_decide 15 = .ok (.getfield 147, 3) := by decide +kernel
theorem dX4_decide_18 : decode cX4_decide 18 = .ok (.iload_n 1, 1) := by decide +kernel
theorem dX4_decide_19 : decode cX4_decide 19 = .ok (.iaload, 1) := by decide +kernel
theorem dX4_decide_20 : decode cX4_decide 20 = .ok (.invokestatic 150, 3) := by decide +kernel
theorem dX4_decide_23 : decode cX4_decide 23 = .ok (.aload_n 0, 1) := by decide +kernel
theorem dX4_decide_24 : decode cX4_decide 24 = .ok (.getfield 26, 3) := by decide +kernel
theorem dX4_decide_27 : decode cX4_decide 27 = .ok (.getfield 144, 3) := by decide +kernel
theorem dX4_decide_30 : decode cX4_decide 30 = .ok (.iload_n 1, 1) := by decide +kernel
theorem dX4_decide_31 : decode cX4_decide 31 = .ok (.iaload, 1) := by decide +kernel
theorem dX4_decide_32 : decode cX4_decide 32 = .ok (.istore_n 3, 1) := by decide +kernel
theorem dX4_decide_33 : decode cX4_decide 33 = .ok (.iload_n 2, 1) := by decide +kernel
theorem dX4_decide_34 : decode cX4_decide 34 = .ok (.iload_n 3, 1) := by decide +kernel
theorem dX4_decide_35 : decode cX4_decide 35 = .ok (.iconst (-1), 1) := by decide +kernel
theorem dX4_decide_36 : decode cX4_decide 36 = .ok (.if_icmp .ne 7, 3) := by decide +kernel
theorem dX4_decide_39 : decode cX4_decide 39 = .ok (.iconst 0, 1) := by decide +kernel
theorem dX4_decide_40 : decode cX4_decide 40 = .ok (.goto 4, 3) := by decide +kernel
theorem dX4_decide_43 : decode cX4_decide 43 = .ok (.iload_n 3, 1) := by decide +kernel
theorem dX4_decide_44 : decode cX4_decide 44 = .ok (.aload_n 0, 1) := by decide +kernel
theorem dX4_decide_45 : decode cX4_decide 45 = .ok (.getfield 26, 3) := by decide +kernel
theorem dX4_decide_48 : decode cX4_decide 48 = .ok (.getfield 143, 3) := by decide +kernel
theorem dX4_decide_51 : decode cX4_decide 51 = .ok (.iload_n 1, 1) := by decide +kernel
theorem dX4_decide_52 : decode cX4_decide 52 = .ok (.iaload, 1) := by decide +kernel
theorem dX4_decide_53 : decode cX4_decide 53 = .ok (.invokestatic 45, 3) := by decide +kernel
theorem dX4_decide_56 : decode cX4_decide 56 = .ok (.aload_n 0, 1) := by decide +kernel
theorem dX4_decide_57 : decode cX4_decide 57 = .ok (.getfield 26, 3) := by decide +kernel
theorem dX4_decide_60 : decode cX4_decide 60 = .ok (.getfield 147, 3) := by decide +kernel
theorem dX4_decide_63 : decode cX4_decide 63 = .ok (.iload_n 1, 1) := by decide +kernel
theorem dX4_decide_64 : decode cX4_decide 64 = .ok (.iload_n 2, 1) := by decide +kernel
theorem dX4_decide_65 : decode cX4_decide 65 = .ok (.iastore, 1) := by decide +kernel
theorem dX4_decide_66 : decode cX4_decide 66 = .ok (.aload_n 0, 1) := by decide +kernel
theorem dX4_decide_67 : decode cX4_decide 67 = .ok (.invokevirtual 156, 3) := by decide +kernel
theorem dX4_decide_70 : decode cX4_decide 70 = .ok (.ireturn, 1) := by decide +kernel
set_option maxRecDepth 20000 in
theorem ggX4_report_X4_checkRange : GoodIn wsX4_report wsX4_checkRange := goodIn_ca (goodIn_r _ [11, 12, 13] (by decide +kernel) (by decide +kernel)) (goodIn_sub (fun _ h => List.mem_cons_of_mem _ (List.mem_append_right _ h)) (by decide +kernel))
set_option maxRecDepth 20000 in
theorem gX4_report_X4_checkRange : GoodIn wsX4_report (va_wsS RX4 45 yX4_checkRange wsX4_checkRange) := goodIn_app (goodIn_of _ (by decide +kernel)) ggX4_report_X4_checkRange
set_option maxRecDepth 20000 in
theorem ggX4_report_X4_checkClosed : GoodIn wsX4_report wsX4_checkClosed := goodIn_ca (goodIn_r _ [17, 1, 2, 18, 83, 84, 85, 86, 87, 88, 89, 90, 91, 92, 93, 94, 95, 96] (by decide +kernel) (by decide +kernel)) (goodIn_sub (fun _ h => List.mem_cons_of_mem _ (List.mem_append_left _ (List.mem_append_right _ h))) (by decide +kernel))
set_option maxRecDepth 20000 in
theorem gX4_report_X4_checkClosed : GoodIn wsX4_report (wsV RX4 121 RX4 yX4_checkClosed wsX4_checkClosed) := goodIn_app (goodIn_of _ (by decide +kernel)) ggX4_report_X4_checkClosed
set_option maxRecDepth 20000 in
theorem ggX4_report_X1_tell : GoodIn wsX4_report wsX1_tell := goodIn_r _ [23, 24, 25, 26, 27, 28, 29, 30, 31, 22, 32, 33, 34, 97, 98, 99, 100, 101, 102, 103, 104] (by decide +kernel) (by decide +kernel)
set_option maxRecDepth 20000 in
theorem gX4_report_X1_tell : GoodIn wsX4_report (wsV RX4 169 RX1 yX1_tell wsX1_tell) := goodIn_app (goodIn_of _ (by decide +kernel)) ggX4_report_X1_tell
set_option maxRecDepth 20000 in
theorem ggX4_report_X4_owe : GoodIn wsX4_report wsX4_owe := goodIn_r _ [38, 39, 40, 41, 42, 43, 44, 45, 46, 47, 48, 10, 49, 50, 51, 52, 53, 54, 55, 56, 57, 58, 59, 60, 61, 62, 63, 64, 65, 66, 67, 68, 69, 70, 71, 72, 73, 74, 75, 76, 77, 78, 79, 80, 81, 82, 83, 84, 85, 86, 87, 88, 89, 90, 91, 92, 93, 94, 95, 96, 105, 106, 107, 108, 109, 110, 111, 112, 113, 114] (by decide +kernel) (by decide +kernel)
set_option maxRecDepth 20000 in
theorem gX4_report_X4_owe : GoodIn wsX4_report (wsV RX4 172 RX4 yX4_owe wsX4_owe) := goodIn_app (goodIn_of _ (by decide +kernel)) ggX4_report_X4_owe
theorem dX4_report_0 : decode cX4_report 0 = .ok (.iload_n 1, 1) := by decide +kernel
theorem dX4_report_1 : decode cX4_report 1 = .ok (.ldc 49, 2) := by decide +kernel
theorem dX4_report_3 : decode cX4_report 3 = .ok (.ldc 44, 2) := by decide +kernel
theorem dX4_report_5 : decode cX4_report 5 = .ok (.invokestatic 45, 3) := by decide +kernel
theorem dX4_report_8 : decode cX4_report 8 = .ok (.aload_n 0, 1) := by decide +kernel
theorem dX4_report_9 : decode cX4_report 9 = .ok (.invokevirtual 121, 3) := by decide +kernel
theorem dX4_report_12 : decode cX4_report 12 = .ok (.aload_n 0, 1) := by decide +kernel
theorem dX4_report_13 : decode cX4_report 13 = .ok (.getfield 33, 3) := by decide +kernel
theorem dX4_report_16 : decode cX4_report 16 = .ok (.getfield 159, 3) := by decide +kernel
theorem dX4_report_19 : decode cX4_report 19 = .ok (.ifCond .eq 13, 3) := by decide +kernel
theorem dX4_report_22 : decode cX4_report 22 = .ok (.new 124, 3) := by decide +kernel
theorem dX4_report_25 : decode cX4_report 25 = .ok (.dup, 1) := by decide +kernel
theorem dX4_report_26 : decode cX4_report 26 = .ok (.ldc 162, 2) := by decide +kernel
theorem dX4_report_28 : decode cX4_report 28 = .ok (.invokespecial 128, 3) := by decide +kernel
theorem dX4_report_31 : decode cX4_report 31 = .ok (.athrow, 1) := by decide +kernel
theorem dX4_report_32 : decode cX4_report 32 = .ok (.aload_n 0, 1) := by decide +kernel
theorem dX4_report_33 : decode cX4_report 33 = .ok (.getfield 33, 3) := by decide +kernel
theorem dX4_report_36 : decode cX4_report 36 = .ok (.getfield 164, 3) := by decide +kernel
theorem dX4_report_39 : decode cX4_report 39 = .ok (.iconst 4, 1) := by decide +kernel
theorem dX4_report_40 : decode cX4_report 40 = .ok (.if_icmp .lt 13, 3) := by decide +kernel
theorem dX4_report_43 : decode cX4_report 43 = .ok (.new 124, 3) := by decide +kernel
theorem dX4_report_46 : decode cX4_report 46 = .ok (.dup, 1) := by decide +kernel
theorem dX4_report_47 : decode cX4_report 47 = .ok (.ldc 167, 2) := by decide +kernel
theorem dX4_report_49 : decode cX4_report 49 = .ok (.invokespecial 128, 3) := by decide +kernel
theorem dX4_report_52 : decode cX4_report 52 = .ok (.athrow, 1) := by decide +kernel
theorem dX4_report_53 : decode cX4_report 53 = .ok (.aload_n 0, 1) := by decide +kernel
theorem dX4_report_54 : decode cX4_report 54 = .ok (.aload_n 0, 1) := by decide +kernel
theorem dX4_report_55 : decode cX4_report 55 = .ok (.getfield 33, 3) := by decide +kernel
theorem dX4_report_58 : decode cX4_report 58 = .ok (.iload_n 1, 1) := by decide +kernel
theorem dX4_report_59 : decode cX4_report 59 = .ok (.invokevirtual 169, 3) := by decide +kernel
theorem dX4_report_62 : decode cX4_report 62 = .ok (.invokevirtual 172, 3) := by decide +kernel
theorem dX4_report_65 : decode cX4_report 65 = .ok (.ireturn, 1) := by decide +kernel
set_option maxRecDepth 20000 in
theorem ggX4_speedUp_X4_checkClosed : GoodIn wsX4_speedUp wsX4_checkClosed := goodIn_ca (goodIn_r _ [9, 1, 2, 10, 72, 73, 74, 75, 76, 77, 78, 79, 80, 81, 82, 83, 84, 85] (by decide +kernel) (by decide +kernel)) (goodIn_sub (fun _ h => List.mem_cons_of_mem _ (List.mem_append_right _ h)) (by decide +kernel))
set_option maxRecDepth 20000 in
theorem gX4_speedUp_X4_checkClosed : GoodIn wsX4_speedUp (wsV RX4 121 RX4 yX4_checkClosed wsX4_checkClosed) := goodIn_app (goodIn_of _ (by decide +kernel)) ggX4_speedUp_X4_checkClosed
set_option maxRecDepth 20000 in
theorem ggX4_speedUp_X1_hasten : GoodIn wsX4_speedUp wsX1_hasten := goodIn_r _ [15, 16, 17, 18, 19, 20, 14, 21, 22, 23, 86, 87, 88, 89, 90, 91, 92, 93] (by decide +kernel) (by decide +kernel)
set_option maxRecDepth 20000 in
theorem gX4_speedUp_X1_hasten : GoodIn wsX4_speedUp (wsV RX4 175 RX1 yX1_hasten wsX1_hasten) := goodIn_app (goodIn_of _ (by decide +kernel)) ggX4_speedUp_X1_hasten
set_option maxRecDepth 20000 in
theorem ggX4_speedUp_X4_owe : GoodIn wsX4_speedUp wsX4_owe := goodIn_r _ [27, 28, 29, 30, 31, 32, 33, 34, 35, 36, 37, 8, 38, 39, 40, 41, 42, 43, 44, 45, 46, 47, 48, 49, 50, 51, 52, 53, 54, 55, 56, 57, 58, 59, 60, 61, 62, 63, 64, 65, 66, 67, 68, 69, 70, 71, 72, 73, 74, 75, 76, 77, 78, 79, 80, 81, 82, 83, 84, 85, 94, 95, 96, 97, 98, 99, 100, 101, 102, 103] (by decide +kernel) (by decide +kernel)
set_option maxRecDepth 20000 in
theorem gX4_speedUp_X4_owe : GoodIn wsX4_speedUp (wsV RX4 172 RX4 yX4_owe wsX4_owe) := goodIn_app (goodIn_of _ (by decide +kernel)) ggX4_speedUp_X4_owe
theorem dX4_speedUp_0 : decode cX4_speedUp 0 = .ok (.aload_n 0, 1) := by decide +kernel
theorem dX4_speedUp_1 : decode cX4_speedUp 1 = .ok (.invokevirtual 121, 3) := by decide +kernel
theorem dX4_speedUp_4 : decode cX4_speedUp 4 = .ok (.aload_n 0, 1) := by decide +kernel
theorem dX4_speedUp_5 : decode cX4_speedUp 5 = .ok (.getfield 33, 3) := by decide +kernel
theorem dX4_speedUp_8 : decode cX4_speedUp 8 = .ok (.getfield 159, 3) := by decide +kernel
theorem dX4_speedUp_11 : decode cX4_speedUp 11 = .ok (.ifCond .eq 13, 3) := by decide +kernel
theorem dX4_speedUp_14 : decode cX4_speedUp 14 = .ok (.new 124, 3) := by decide +kernel
theorem dX4_speedUp_17 : decode cX4_speedUp 17 = .ok (.dup, 1) := by decide +kernel
theorem dX4_speedUp_18 : decode cX4_speedUp 18 = .ok (.ldc 162, 2) := by decide +kernel
theorem dX4_speedUp_20 : decode cX4_speedUp 20 = .ok (.invokespecial 128, 3) := by decide +kernel
theorem dX4_speedUp_23 : decode cX4_speedUp 23 = .ok (.athrow, 1) := by decide +kernel
theorem dX4_speedUp_24 : decode cX4_speedUp 24 = .ok (.aload_n 0, 1) := by decide +kernel
theorem dX4_speedUp_25 : decode cX4_speedUp 25 = .ok (.aload_n 0, 1) := by decide +kernel
theorem dX4_speedUp_26 : decode cX4_speedUp 26 = .ok (.getfield 33, 3) := by decide +kernel
theorem dX4_speedUp_29 : decode cX4_speedUp 29 = .ok (.invokevirtual 175, 3) := by decide +kernel
theorem dX4_speedUp_32 : decode cX4_speedUp 32 = .ok (.invokevirtual 172, 3) := by decide +kernel
theorem dX4_speedUp_35 : decode cX4_speedUp 35 = .ok (.ireturn, 1) := by decide +kernel
theorem dX4_day_0 : decode cX4_day 0 = .ok (.aload_n 0, 1) := by decide +kernel
theorem dX4_day_1 : decode cX4_day 1 = .ok (.getfield 37, 3) := by decide +kernel
theorem dX4_day_4 : decode cX4_day 4 = .ok (.ireturn, 1) := by decide +kernel
theorem dX4_finalPrice_0 : decode cX4_finalPrice 0 = .ok (.aload_n 0, 1) := by decide +kernel
theorem dX4_finalPrice_1 : decode cX4_finalPrice 1 = .ok (.getfield 41, 3) := by decide +kernel
theorem dX4_finalPrice_4 : decode cX4_finalPrice 4 = .ok (.ireturn, 1) := by decide +kernel
theorem dX4_held_0 : decode cX4_held 0 = .ok (.aload_n 0, 1) := by decide +kernel
theorem dX4_held_1 : decode cX4_held 1 = .ok (.getfield 115, 3) := by decide +kernel
theorem dX4_held_4 : decode cX4_held 4 = .ok (.ireturn, 1) := by decide +kernel
theorem dX4_paid_0 : decode cX4_paid 0 = .ok (.aload_n 0, 1) := by decide +kernel
theorem dX4_paid_1 : decode cX4_paid 1 = .ok (.getfield 118, 3) := by decide +kernel
theorem dX4_paid_4 : decode cX4_paid 4 = .ok (.ireturn, 1) := by decide +kernel
theorem dX4_returned_0 : decode cX4_returned 0 = .ok (.aload_n 0, 1) := by decide +kernel
theorem dX4_returned_1 : decode cX4_returned 1 = .ok (.getfield 178, 3) := by decide +kernel
theorem dX4_returned_4 : decode cX4_returned 4 = .ok (.ireturn, 1) := by decide +kernel
theorem dX4_setOff_0 : decode cX4_setOff 0 = .ok (.aload_n 0, 1) := by decide +kernel
theorem dX4_setOff_1 : decode cX4_setOff 1 = .ok (.getfield 181, 3) := by decide +kernel
theorem dX4_setOff_4 : decode cX4_setOff 4 = .ok (.ireturn, 1) := by decide +kernel
theorem dX4_owed_0 : decode cX4_owed 0 = .ok (.aload_n 0, 1) := by decide +kernel
theorem dX4_owed_1 : decode cX4_owed 1 = .ok (.getfield 184, 3) := by decide +kernel
theorem dX4_owed_4 : decode cX4_owed 4 = .ok (.ireturn, 1) := by decide +kernel
set_option maxRecDepth 20000 in
theorem ggX4_due_X4_dueInAll : GoodIn wsX4_due wsX4_dueInAll := goodIn_r _ [5, 6, 7, 8, 4, 9, 10, 11, 12, 13, 14, 15, 16, 17, 18, 19, 20, 21, 22, 23, 24, 25, 26, 27, 28, 29, 30, 31, 32, 33, 34, 35, 36, 37, 38, 39, 40, 41, 42, 43, 44, 45, 46, 47, 48, 49, 50, 51, 52, 53, 54, 55, 56, 57, 58, 59, 60] (by decide +kernel) (by decide +kernel)
set_option maxRecDepth 20000 in
theorem gX4_due_X4_dueInAll : GoodIn wsX4_due (wsV RX4 187 RX4 yX4_dueInAll wsX4_dueInAll) := goodIn_app (goodIn_of _ (by decide +kernel)) ggX4_due_X4_dueInAll
theorem dX4_due_0 : decode cX4_due 0 = .ok (.aload_n 0, 1) := by decide +kernel
theorem dX4_due_1 : decode cX4_due 1 = .ok (.invokevirtual 187, 3) := by decide +kernel
theorem dX4_due_4 : decode cX4_due 4 = .ok (.ireturn, 1) := by decide +kernel
set_option maxRecDepth 20000 in
theorem ggX4_outstanding_X4_leftOutstanding : GoodIn wsX4_outstanding wsX4_leftOutstanding := goodIn_r _ [5, 6, 7, 8, 9, 10, 4, 11, 12, 13, 14, 15, 16, 17, 18, 19, 20, 21, 22, 23, 24, 25, 26, 27, 28, 29, 30, 31, 32, 33, 34, 35, 36, 37, 38, 39, 40, 41, 42, 43, 44, 45, 46, 47, 48, 49, 50, 51, 52, 53, 54, 55, 56, 57, 58, 59, 60, 61, 62, 63, 64, 65, 66] (by decide +kernel) (by decide +kernel)
set_option maxRecDepth 20000 in
theorem gX4_outstanding_X4_leftOutstanding : GoodIn wsX4_outstanding (wsV RX4 190 RX4 yX4_leftOutstanding wsX4_leftOutstanding) := goodIn_app (goodIn_of _ (by decide +kernel)) ggX4_outstanding_X4_leftOutstanding
theorem dX4_outstanding_0 : decode cX4_outstanding 0 = .ok (.aload_n 0, 1) := by decide +kernel
theorem dX4_outstanding_1 : decode cX4_outstanding 1 = .ok (.invokevirtual 190, 3) := by decide +kernel
theorem dX4_outstanding_4 : decode cX4_outstanding 4 = .ok (.ireturn, 1) := by decide +kernel
set_option maxRecDepth 20000 in
theorem ggX4_dueOf_X4_checkNumber : GoodIn wsX4_dueOf wsX4_checkNumber := goodIn_ca (goodIn_r _ [4, 5, 6] (by decide +kernel) (by decide +kernel)) (goodIn_sub (fun _ h => List.mem_cons_of_mem _ (List.mem_append_right _ h)) (by decide +kernel))
set_option maxRecDepth 20000 in
theorem gX4_dueOf_X4_checkNumber : GoodIn wsX4_dueOf (va_wsS RX4 62 yX4_checkNumber wsX4_checkNumber) := goodIn_app (goodIn_of _ (by decide +kernel)) ggX4_dueOf_X4_checkNumber
set_option maxRecDepth 20000 in
theorem ggX4_dueOf_X4_dueOfKind : GoodIn wsX4_dueOf wsX4_dueOfKind := goodIn_r _ [10, 11, 12, 13, 14, 15, 16, 17, 18, 19, 20, 21, 22, 23, 24, 25, 26, 27, 28, 29, 30, 31, 32, 33, 34, 35, 36, 37, 38, 39, 40, 41, 42, 43, 44, 45, 46, 47, 48, 49, 50, 51, 52, 53, 54, 55, 56, 57, 58, 59, 60, 61] (by decide +kernel) (by decide +kernel)
set_option maxRecDepth 20000 in
theorem gX4_dueOf_X4_dueOfKind : GoodIn wsX4_dueOf (wsV RX4 193 RX4 yX4_dueOfKind wsX4_dueOfKind) := goodIn_app (goodIn_of _ (by decide +kernel)) ggX4_dueOf_X4_dueOfKind
theorem dX4_dueOf_0 : decode cX4_dueOf 0 = .ok (.iload_n 1, 1) := by decide +kernel
theorem dX4_dueOf_1 : decode cX4_dueOf 1 = .ok (.iconst 3, 1) := by decide +kernel
theorem dX4_dueOf_2 : decode cX4_dueOf 2 = .ok (.invokestatic 62, 3) := by decide +kernel
theorem dX4_dueOf_5 : decode cX4_dueOf 5 = .ok (.aload_n 0, 1) := by decide +kernel
theorem dX4_dueOf_6 : decode cX4_dueOf 6 = .ok (.iload_n 1, 1) := by decide +kernel
theorem dX4_dueOf_7 : decode cX4_dueOf 7 = .ok (.invokevirtual 193, 3) := by decide +kernel
theorem dX4_dueOf_10 : decode cX4_dueOf 10 = .ok (.ireturn, 1) := by decide +kernel
theorem dX4_claims_0 : decode cX4_claims 0 = .ok (.aload_n 0, 1) := by decide +kernel
theorem dX4_claims_1 : decode cX4_claims 1 = .ok (.getfield 26, 3) := by decide +kernel
theorem dX4_claims_4 : decode cX4_claims 4 = .ok (.getfield 136, 3) := by decide +kernel
theorem dX4_claims_7 : decode cX4_claims 7 = .ok (.ireturn, 1) := by decide +kernel
set_option maxRecDepth 20000 in
theorem ggX4_settledAt_X4_checkNumber : GoodIn wsX4_settledAt wsX4_checkNumber := goodIn_ca (goodIn_r _ [7, 8, 9] (by decide +kernel) (by decide +kernel)) (goodIn_sub (fun _ h => List.mem_cons_of_mem _ (List.mem_append_right _ h)) (by decide +kernel))
set_option maxRecDepth 20000 in
theorem gX4_settledAt_X4_checkNumber : GoodIn wsX4_settledAt (va_wsS RX4 62 yX4_checkNumber wsX4_checkNumber) := goodIn_app (goodIn_of _ (by decide +kernel)) ggX4_settledAt_X4_checkNumber
theorem dX4_settledAt_0 : decode cX4_settledAt 0 = .ok (.iload_n 1, 1) := by decide +kernel
theorem dX4_settledAt_1 : decode cX4_settledAt 1 = .ok (.aload_n 0, 1) := by decide +kernel
theorem dX4_settledAt_2 : decode cX4_settledAt 2 = .ok (.getfield 26, 3) := by decide +kernel
theorem dX4_settledAt_5 : decode cX4_settledAt 5 = .ok (.getfield 136, 3) := by decide +kernel
theorem dX4_settledAt_8 : decode cX4_settledAt 8 = .ok (.invokestatic 62, 3) := by decide +kernel
theorem dX4_settledAt_11 : decode cX4_settledAt 11 = .ok (.aload_n 0, 1) := by decide +kernel
theorem dX4_settledAt_12 : decode cX4_settledAt 12 = .ok (.getfield 26, 3) := by decide +kernel
theorem dX4_settledAt_15 : decode cX4_settledAt 15 = .ok (.getfield 147, 3) := by decide +kernel
theorem dX4_settledAt_18 : decode cX4_settledAt 18 = .ok (.iload_n 1, 1) := by decide +kernel
theorem dX4_settledAt_19 : decode cX4_settledAt 19 = .ok (.iaload, 1) := by decide +kernel
theorem dX4_settledAt_20 : decode cX4_settledAt 20 = .ok (.ireturn, 1) := by decide +kernel
set_option maxRecDepth 20000 in
theorem ggX4_isMet_X4_checkNumber : GoodIn wsX4_isMet wsX4_checkNumber := goodIn_ca (goodIn_r _ [6, 7, 8] (by decide +kernel) (by decide +kernel)) (goodIn_sub (fun _ h => List.mem_cons_of_mem _ (List.mem_append_right _ h)) (by decide +kernel))
set_option maxRecDepth 20000 in
theorem gX4_isMet_X4_checkNumber : GoodIn wsX4_isMet (va_wsS RX4 62 yX4_checkNumber wsX4_checkNumber) := goodIn_app (goodIn_of _ (by decide +kernel)) ggX4_isMet_X4_checkNumber
theorem dX4_isMet_0 : decode cX4_isMet 0 = .ok (.iload_n 1, 1) := by decide +kernel
theorem dX4_isMet_1 : decode cX4_isMet 1 = .ok (.iconst 4, 1) := by decide +kernel
theorem dX4_isMet_2 : decode cX4_isMet 2 = .ok (.invokestatic 62, 3) := by decide +kernel
theorem dX4_isMet_5 : decode cX4_isMet 5 = .ok (.aload_n 0, 1) := by decide +kernel
theorem dX4_isMet_6 : decode cX4_isMet 6 = .ok (.getfield 33, 3) := by decide +kernel
theorem dX4_isMet_9 : decode cX4_isMet 9 = .ok (.getfield 196, 3) := by decide +kernel
theorem dX4_isMet_12 : decode cX4_isMet 12 = .ok (.iload_n 1, 1) := by decide +kernel
theorem dX4_isMet_13 : decode cX4_isMet 13 = .ok (.baload, 1) := by decide +kernel
theorem dX4_isMet_14 : decode cX4_isMet 14 = .ok (.ireturn, 1) := by decide +kernel
theorem dX4_checkNumber_0 : decode cX4_checkNumber 0 = .ok (.iload_n 0, 1) := by decide +kernel
theorem dX4_checkNumber_1 : decode cX4_checkNumber 1 = .ok (.ifCond .lt 8, 3) := by decide +kernel
theorem dX4_checkNumber_4 : decode cX4_checkNumber 4 = .ok (.iload_n 0, 1) := by decide +kernel
theorem dX4_checkNumber_5 : decode cX4_checkNumber 5 = .ok (.iload_n 1, 1) := by decide +kernel
theorem dX4_checkNumber_6 : decode cX4_checkNumber 6 = .ok (.if_icmp .lt 13, 3) := by decide +kernel
theorem dX4_checkNumber_9 : decode cX4_checkNumber 9 = .ok (.new 199, 3) := by decide +kernel
theorem dX4_checkNumber_12 : decode cX4_checkNumber 12 = .ok (.dup, 1) := by decide +kernel
theorem dX4_checkNumber_13 : decode cX4_checkNumber 13 = .ok (.ldc 201, 2) := by decide +kernel
theorem dX4_checkNumber_15 : decode cX4_checkNumber 15 = .ok (.invokespecial 203, 3) := by decide +kernel
theorem dX4_checkNumber_18 : decode cX4_checkNumber 18 = .ok (.athrow, 1) := by decide +kernel
theorem dX4_checkNumber_19 : decode cX4_checkNumber 19 = .ok (.return_, 1) := by decide +kernel
theorem dX4_checkRange_0 : decode cX4_checkRange 0 = .ok (.iload_n 0, 1) := by decide +kernel
theorem dX4_checkRange_1 : decode cX4_checkRange 1 = .ok (.iload_n 1, 1) := by decide +kernel
theorem dX4_checkRange_2 : decode cX4_checkRange 2 = .ok (.if_icmp .lt 8, 3) := by decide +kernel
theorem dX4_checkRange_5 : decode cX4_checkRange 5 = .ok (.iload_n 0, 1) := by decide +kernel
theorem dX4_checkRange_6 : decode cX4_checkRange 6 = .ok (.iload_n 2, 1) := by decide +kernel
theorem dX4_checkRange_7 : decode cX4_checkRange 7 = .ok (.if_icmp .le 13, 3) := by decide +kernel
theorem dX4_checkRange_10 : decode cX4_checkRange 10 = .ok (.new 204, 3) := by decide +kernel
theorem dX4_checkRange_13 : decode cX4_checkRange 13 = .ok (.dup, 1) := by decide +kernel
theorem dX4_checkRange_14 : decode cX4_checkRange 14 = .ok (.ldc 206, 2) := by decide +kernel
theorem dX4_checkRange_16 : decode cX4_checkRange 16 = .ok (.invokespecial 208, 3) := by decide +kernel
theorem dX4_checkRange_19 : decode cX4_checkRange 19 = .ok (.athrow, 1) := by decide +kernel
theorem dX4_checkRange_20 : decode cX4_checkRange 20 = .ok (.return_, 1) := by decide +kernel
theorem dX4_checkOpen_0 : decode cX4_checkOpen 0 = .ok (.iload_n 0, 1) := by decide +kernel
theorem dX4_checkOpen_1 : decode cX4_checkOpen 1 = .ok (.iconst (-1), 1) := by decide +kernel
theorem dX4_checkOpen_2 : decode cX4_checkOpen 2 = .ok (.if_icmp .eq 13, 3) := by decide +kernel
theorem dX4_checkOpen_5 : decode cX4_checkOpen 5 = .ok (.new 124, 3) := by decide +kernel
theorem dX4_checkOpen_8 : decode cX4_checkOpen 8 = .ok (.dup, 1) := by decide +kernel
theorem dX4_checkOpen_9 : decode cX4_checkOpen 9 = .ok (.ldc 209, 2) := by decide +kernel
theorem dX4_checkOpen_11 : decode cX4_checkOpen 11 = .ok (.invokespecial 128, 3) := by decide +kernel
theorem dX4_checkOpen_14 : decode cX4_checkOpen 14 = .ok (.athrow, 1) := by decide +kernel
theorem dX4_checkOpen_15 : decode cX4_checkOpen 15 = .ok (.return_, 1) := by decide +kernel
theorem dX4_checkNotClosed_0 : decode cX4_checkNotClosed 0 = .ok (.aload_n 0, 1) := by decide +kernel
theorem dX4_checkNotClosed_1 : decode cX4_checkNotClosed 1 = .ok (.getfield 37, 3) := by decide +kernel
theorem dX4_checkNotClosed_4 : decode cX4_checkNotClosed 4 = .ok (.iconst (-1), 1) := by decide +kernel
theorem dX4_checkNotClosed_5 : decode cX4_checkNotClosed 5 = .ok (.if_icmp .eq 13, 3) := by decide +kernel
theorem dX4_checkNotClosed_8 : decode cX4_checkNotClosed 8 = .ok (.new 124, 3) := by decide +kernel
theorem dX4_checkNotClosed_11 : decode cX4_checkNotClosed 11 = .ok (.dup, 1) := by decide +kernel
theorem dX4_checkNotClosed_12 : decode cX4_checkNotClosed 12 = .ok (.ldc 211, 2) := by decide +kernel
theorem dX4_checkNotClosed_14 : decode cX4_checkNotClosed 14 = .ok (.invokespecial 128, 3) := by decide +kernel
theorem dX4_checkNotClosed_17 : decode cX4_checkNotClosed 17 = .ok (.athrow, 1) := by decide +kernel
theorem dX4_checkNotClosed_18 : decode cX4_checkNotClosed 18 = .ok (.return_, 1) := by decide +kernel
theorem dX4_checkClosed_0 : decode cX4_checkClosed 0 = .ok (.aload_n 0, 1) := by decide +kernel
theorem dX4_checkClosed_1 : decode cX4_checkClosed 1 = .ok (.getfield 37, 3) := by decide +kernel
theorem dX4_checkClosed_4 : decode cX4_checkClosed 4 = .ok (.iconst (-1), 1) := by decide +kernel
theorem dX4_checkClosed_5 : decode cX4_checkClosed 5 = .ok (.if_icmp .ne 13, 3) := by decide +kernel
theorem dX4_checkClosed_8 : decode cX4_checkClosed 8 = .ok (.new 124, 3) := by decide +kernel
theorem dX4_checkClosed_11 : decode cX4_checkClosed 11 = .ok (.dup, 1) := by decide +kernel
theorem dX4_checkClosed_12 : decode cX4_checkClosed 12 = .ok (.ldc 213, 2) := by decide +kernel
theorem dX4_checkClosed_14 : decode cX4_checkClosed 14 = .ok (.invokespecial 128, 3) := by decide +kernel
theorem dX4_checkClosed_17 : decode cX4_checkClosed 17 = .ok (.athrow, 1) := by decide +kernel
theorem dX4_checkClosed_18 : decode cX4_checkClosed 18 = .ok (.return_, 1) := by decide +kernel
theorem dX4_beyondCollar_0 : decode cX4_beyondCollar 0 = .ok (.iload_n 1, 1) := by decide +kernel
theorem dX4_beyondCollar_1 : decode cX4_beyondCollar 1 = .ok (.aload_n 0, 1) := by decide +kernel
theorem dX4_beyondCollar_2 : decode cX4_beyondCollar 2 = .ok (.getfield 59, 3) := by decide +kernel
theorem dX4_beyondCollar_5 : decode cX4_beyondCollar 5 = .ok (.if_icmp .le 10, 3) := by decide +kernel
theorem dX4_beyondCollar_8 : decode cX4_beyondCollar 8 = .ok (.iload_n 1, 1) := by decide +kernel
theorem dX4_beyondCollar_9 : decode cX4_beyondCollar 9 = .ok (.aload_n 0, 1) := by decide +kernel
theorem dX4_beyondCollar_10 : decode cX4_beyondCollar 10 = .ok (.getfield 59, 3) := by decide +kernel
theorem dX4_beyondCollar_13 : decode cX4_beyondCollar 13 = .ok (.isub, 1) := by decide +kernel
theorem dX4_beyondCollar_14 : decode cX4_beyondCollar 14 = .ok (.ireturn, 1) := by decide +kernel
theorem dX4_beyondCollar_15 : decode cX4_beyondCollar 15 = .ok (.iload_n 1, 1) := by decide +kernel
theorem dX4_beyondCollar_16 : decode cX4_beyondCollar 16 = .ok (.aload_n 0, 1) := by decide +kernel
theorem dX4_beyondCollar_17 : decode cX4_beyondCollar 17 = .ok (.getfield 59, 3) := by decide +kernel
theorem dX4_beyondCollar_20 : decode cX4_beyondCollar 20 = .ok (.ineg, 1) := by decide +kernel
theorem dX4_beyondCollar_21 : decode cX4_beyondCollar 21 = .ok (.if_icmp .ge 10, 3) := by decide +kernel
theorem dX4_beyondCollar_24 : decode cX4_beyondCollar 24 = .ok (.iload_n 1, 1) := by decide +kernel
theorem dX4_beyondCollar_25 : decode cX4_beyondCollar 25 = .ok (.aload_n 0, 1) := by decide +kernel
theorem dX4_beyondCollar_26 : decode cX4_beyondCollar 26 = .ok (.getfield 59, 3) := by decide +kernel
theorem dX4_beyondCollar_29 : decode cX4_beyondCollar 29 = .ok (.iadd, 1) := by decide +kernel
theorem dX4_beyondCollar_30 : decode cX4_beyondCollar 30 = .ok (.ireturn, 1) := by decide +kernel
theorem dX4_beyondCollar_31 : decode cX4_beyondCollar 31 = .ok (.iconst 0, 1) := by decide +kernel
theorem dX4_beyondCollar_32 : decode cX4_beyondCollar 32 = .ok (.ireturn, 1) := by decide +kernel
set_option maxRecDepth 20000 in
theorem ggX4_dueOfKind_X0_settledSum : GoodIn wsX4_dueOfKind wsX0_settledSum := goodIn_r _ [8, 9, 10, 11, 47, 48, 49, 50, 51] (by decide +kernel) (by decide +kernel)
set_option maxRecDepth 20000 in
theorem gX4_dueOfKind_X0_settledSum : GoodIn wsX4_dueOfKind (wsV RX4 215 RX0 yX0_settledSum wsX0_settledSum) := goodIn_app (goodIn_of _ (by decide +kernel)) ggX4_dueOfKind_X0_settledSum
set_option maxRecDepth 20000 in
theorem ggX4_dueOfKind_X3_limit : GoodIn wsX4_dueOfKind wsX3_limit := goodIn_r _ [16, 17, 18, 19, 20, 21, 22, 23, 24, 15, 25, 26, 27, 42, 43, 44, 45, 46] (by decide +kernel) (by decide +kernel)
set_option maxRecDepth 20000 in
theorem gX4_dueOfKind_X3_limit : GoodIn wsX4_dueOfKind (wsV RX4 218 RX3 yX3_limit wsX3_limit) := goodIn_app (goodIn_of _ (by decide +kernel)) ggX4_dueOfKind_X3_limit
theorem dX4_dueOfKind_0 : decode cX4_dueOfKind 0 = .ok (.aload_n 0, 1) := by decide +kernel
theorem dX4_dueOfKind_1 : decode cX4_dueOfKind 1 = .ok (.getfield 19, 3) := by decide +kernel
theorem dX4_dueOfKind_4 : decode cX4_dueOfKind 4 = .ok (.iload_n 1, 1) := by decide +kernel
theorem dX4_dueOfKind_5 : decode cX4_dueOfKind 5 = .ok (.aload_n 0, 1) := by decide +kernel
theorem dX4_dueOfKind_6 : decode cX4_dueOfKind 6 = .ok (.getfield 26, 3) := by decide +kernel
theorem dX4_dueOfKind_9 : decode cX4_dueOfKind 9 = .ok (.iload_n 1, 1) := by decide +kernel
theorem dX4_dueOfKind_10 : decode cX4_dueOfKind 10 = .ok (.aload_n 0, 1) := by decide +kernel
theorem dX4_dueOfKind_11 : decode cX4_dueOfKind 11 = .ok (.getfield 19, 3) := by decide +kernel
theorem dX4_dueOfKind_14 : decode cX4_dueOfKind 14 = .ok (.getfield 74, 3) := by decide +kernel
theorem dX4_dueOfKind_17 : decode cX4_dueOfKind 17 = .ok (.iload_n 1, 1) := by decide +kernel
theorem dX4_dueOfKind_18 : decode cX4_dueOfKind 18 = .ok (.iaload, 1) := by decide +kernel
theorem dX4_dueOfKind_19 : decode cX4_dueOfKind 19 = .ok (.invokevirtual 215, 3) := by decide +kernel
theorem dX4_dueOfKind_22 : decode cX4_dueOfKind 22 = .ok (.invokevirtual 218, 3) := by decide +kernel
theorem dX4_dueOfKind_25 : decode cX4_dueOfKind 25 = .ok (.ireturn, 1) := by decide +kernel
set_option maxRecDepth 20000 in
theorem ggX4_dueInAll_X4_dueOfKind : GoodIn wsX4_dueInAll wsX4_dueOfKind := goodIn_r _ [5, 6, 7, 8, 9, 10, 11, 12, 13, 14, 15, 16, 17, 18, 19, 20, 21, 22, 23, 24, 25, 26, 27, 28, 29, 30, 31, 32, 33, 34, 35, 36, 37, 38, 39, 40, 41, 42, 43, 44, 45, 46, 47, 48, 49, 50, 51, 52, 53, 54, 55, 56] (by decide +kernel) (by decide +kernel)
set_option maxRecDepth 20000 in
theorem gX4_dueInAll_X4_dueOfKind : GoodIn wsX4_dueInAll (wsV RX4 193 RX4 yX4_dueOfKind wsX4_dueOfKind) := goodIn_app (goodIn_of _ (by decide +kernel)) ggX4_dueInAll_X4_dueOfKind
theorem dX4_dueInAll_0 : decode cX4_dueInAll 0 = .ok (.iconst 0, 1) := by decide +kernel
theorem dX4_dueInAll_1 : decode cX4_dueInAll 1 = .ok (.istore_n 1, 1) := by decide +kernel
theorem dX4_dueInAll_2 : decode cX4_dueInAll 2 = .ok (.iconst 0, 1) := by decide +kernel
theorem dX4_dueInAll_3 : decode cX4_dueInAll 3 = .ok (.istore_n 2, 1) := by decide +kernel
theorem dX4_dueInAll_4 : decode cX4_dueInAll 4 = .ok (.iload_n 2, 1) := by decide +kernel
theorem dX4_dueInAll_5 : decode cX4_dueInAll 5 = .ok (.iconst 3, 1) := by decide +kernel
theorem dX4_dueInAll_6 : decode cX4_dueInAll 6 = .ok (.if_icmp .ge 17, 3) := by decide +kernel
theorem dX4_dueInAll_9 : decode cX4_dueInAll 9 = .ok (.iload_n 1, 1) := by decide +kernel
theorem dX4_dueInAll_10 : decode cX4_dueInAll 10 = .ok (.aload_n 0, 1) := by decide +kernel
theorem dX4_dueInAll_11 : decode cX4_dueInAll 11 = .ok (.iload_n 2, 1) := by decide +kernel
theorem dX4_dueInAll_12 : decode cX4_dueInAll 12 = .ok (.invokevirtual 193, 3) := by decide +kernel
theorem dX4_dueInAll_15 : decode cX4_dueInAll 15 = .ok (.iadd, 1) := by decide +kernel
theorem dX4_dueInAll_16 : decode cX4_dueInAll 16 = .ok (.istore_n 1, 1) := by decide +kernel
theorem dX4_dueInAll_17 : decode cX4_dueInAll 17 = .ok (.iinc 2 1, 3) := by decide +kernel
theorem dX4_dueInAll_20 : decode cX4_dueInAll 20 = .ok (.goto (-16), 3) := by decide +kernel
theorem dX4_dueInAll_23 : decode cX4_dueInAll 23 = .ok (.iload_n 1, 1) := by decide +kernel
theorem dX4_dueInAll_24 : decode cX4_dueInAll 24 = .ok (.ireturn, 1) := by decide +kernel
set_option maxRecDepth 20000 in
theorem ggX4_leftOutstanding_X4_dueInAll : GoodIn wsX4_leftOutstanding wsX4_dueInAll := goodIn_r _ [7, 8, 9, 10, 6, 11, 12, 13, 14, 15, 16, 17, 18, 19, 20, 21, 22, 23, 24, 25, 26, 27, 28, 29, 30, 31, 32, 33, 34, 35, 36, 37, 38, 39, 40, 41, 42, 43, 44, 45, 46, 47, 48, 49, 50, 51, 52, 53, 54, 55, 56, 57, 58, 59, 60, 61, 62] (by decide +kernel) (by decide +kernel)
set_option maxRecDepth 20000 in
theorem gX4_leftOutstanding_X4_dueInAll : GoodIn wsX4_leftOutstanding (wsV RX4 187 RX4 yX4_dueInAll wsX4_dueInAll) := goodIn_app (goodIn_of _ (by decide +kernel)) ggX4_leftOutstanding_X4_dueInAll
theorem dX4_leftOutstanding_0 : decode cX4_leftOutstanding 0 = .ok (.aload_n 0, 1) := by decide +kernel
theorem dX4_leftOutstanding_1 : decode cX4_leftOutstanding 1 = .ok (.invokevirtual 187, 3) := by decide +kernel
theorem dX4_leftOutstanding_4 : decode cX4_leftOutstanding 4 = .ok (.aload_n 0, 1) := by decide +kernel
theorem dX4_leftOutstanding_5 : decode cX4_leftOutstanding 5 = .ok (.getfield 178, 3) := by decide +kernel
theorem dX4_leftOutstanding_8 : decode cX4_leftOutstanding 8 = .ok (.isub, 1) := by decide +kernel
theorem dX4_leftOutstanding_9 : decode cX4_leftOutstanding 9 = .ok (.aload_n 0, 1) := by decide +kernel
theorem dX4_leftOutstanding_10 : decode cX4_leftOutstanding 10 = .ok (.getfield 181, 3) := by decide +kernel
theorem dX4_leftOutstanding_13 : decode cX4_leftOutstanding 13 = .ok (.isub, 1) := by decide +kernel
theorem dX4_leftOutstanding_14 : decode cX4_leftOutstanding 14 = .ok (.ireturn, 1) := by decide +kernel
set_option maxRecDepth 20000 in
theorem ggX4_payOut_X4_leftOutstanding : GoodIn wsX4_payOut wsX4_leftOutstanding := goodIn_r _ [11, 6, 12, 13, 14, 15, 10, 16, 17, 18, 19, 20, 21, 22, 23, 24, 25, 26, 27, 28, 29, 30, 31, 32, 33, 34, 35, 36, 37, 38, 3, 4, 5, 39, 40, 41, 42, 43, 44, 64, 65, 66, 67, 68, 69, 70, 71, 72, 73, 74, 75, 76, 77, 78, 79, 80, 81, 82, 83, 84, 85, 86, 87] (by decide +kernel) (by decide +kernel)
set_option maxRecDepth 20000 in
theorem gX4_payOut_X4_leftOutstanding : GoodIn wsX4_payOut (wsV RX4 190 RX4 yX4_leftOutstanding wsX4_leftOutstanding) := goodIn_app (goodIn_of _ (by decide +kernel)) ggX4_payOut_X4_leftOutstanding
set_option maxRecDepth 20000 in
theorem ggX4_payOut_X4_free : GoodIn wsX4_payOut wsX4_free := goodIn_r _ [48, 49, 50, 22, 1, 51, 52, 53, 54, 55, 56, 57, 58, 59, 60, 61, 27, 62, 29, 31, 63, 64, 65, 66, 67, 68, 69, 70, 71, 72, 73, 74, 75, 76, 77, 88, 89, 83, 84, 85, 86, 87] (by decide +kernel) (by decide +kernel)
set_option maxRecDepth 20000 in
theorem gX4_payOut_X4_free : GoodIn wsX4_payOut (wsV RX4 131 RX4 yX4_free wsX4_free) := goodIn_app (goodIn_of _ (by decide +kernel)) ggX4_payOut_X4_free
theorem dX4_payOut_0 : decode cX4_payOut 0 = .ok (.aload_n 0, 1) := by decide +kernel
theorem dX4_payOut_1 : decode cX4_payOut 1 = .ok (.invokevirtual 190, 3) := by decide +kernel
theorem dX4_payOut_4 : decode cX4_payOut 4 = .ok (.aload_n 0, 1) := by decide +kernel
theorem dX4_payOut_5 : decode cX4_payOut 5 = .ok (.getfield 115, 3) := by decide +kernel
theorem dX4_payOut_8 : decode cX4_payOut 8 = .ok (.invokestatic 112, 3) := by decide +kernel
theorem dX4_payOut_11 : decode cX4_payOut 11 = .ok (.istore_n 1, 1) := by decide +kernel
theorem dX4_payOut_12 : decode cX4_payOut 12 = .ok (.aload_n 0, 1) := by decide +kernel
theorem dX4_payOut_13 : decode cX4_payOut 13 = .ok (.dup, 1) := by decide +kernel
theorem dX4_payOut_14 : decode cX4_payOut 14 = .ok (.getfield 115, 3) := by decide +kernel
theorem dX4_payOut_17 : decode cX4_payOut 17 = .ok (.iload_n 1, 1) := by decide +kernel
theorem dX4_payOut_18 : decode cX4_payOut 18 = .ok (.isub, 1) := by decide +kernel
theorem dX4_payOut_19 : decode cX4_payOut 19 = .ok (.putfield 115, 3) := by decide +kernel
theorem dX4_payOut_22 : decode cX4_payOut 22 = .ok (.aload_n 0, 1) := by decide +kernel
theorem dX4_payOut_23 : decode cX4_payOut 23 = .ok (.dup, 1) := by decide +kernel
theorem dX4_payOut_24 : decode cX4_payOut 24 = .ok (.getfield 178, 3) := by decide +kernel
theorem dX4_payOut_27 : decode cX4_payOut 27 = .ok (.iload_n 1, 1) := by decide +kernel
theorem dX4_payOut_28 : decode cX4_payOut 28 = .ok (.iadd, 1) := by decide +kernel
theorem dX4_payOut_29 : decode cX4_payOut 29 = .ok (.putfield 178, 3) := by decide +kernel
theorem dX4_payOut_32 : decode cX4_payOut 32 = .ok (.aload_n 0, 1) := by decide +kernel
theorem dX4_payOut_33 : decode cX4_payOut 33 = .ok (.invokevirtual 131, 3) := by decide +kernel
theorem dX4_payOut_36 : decode cX4_payOut 36 = .ok (.iload_n 1, 1) := by decide +kernel
theorem dX4_payOut_37 : decode cX4_payOut 37 = .ok (.ireturn, 1) := by decide +kernel
set_option maxRecDepth 20000 in
theorem ggX4_free_X2_totalAfter : GoodIn wsX4_free wsX2_totalAfter := goodIn_r _ [10, 11, 12, 35, 36] (by decide +kernel) (by decide +kernel)
set_option maxRecDepth 20000 in
theorem gX4_free_X2_totalAfter : GoodIn wsX4_free (wsV RX4 221 RX2 yX2_totalAfter wsX2_totalAfter) := goodIn_app (goodIn_of _ (by decide +kernel)) ggX4_free_X2_totalAfter
set_option maxRecDepth 20000 in
theorem ggX4_free_X0_openSum : GoodIn wsX4_free wsX0_openSum := goodIn_r _ [17, 18, 19, 20, 37, 38, 39, 40, 41] (by decide +kernel) (by decide +kernel)
set_option maxRecDepth 20000 in
theorem gX4_free_X0_openSum : GoodIn wsX4_free (wsV RX4 224 RX0 yX0_openSum wsX0_openSum) := goodIn_app (goodIn_of _ (by decide +kernel)) ggX4_free_X0_openSum
theorem dX4_free_0 : decode cX4_free 0 = .ok (.aload_n 0, 1) := by decide +kernel
theorem dX4_free_1 : decode cX4_free 1 = .ok (.getfield 10, 3) := by decide +kernel
theorem dX4_free_4 : decode cX4_free 4 = .ok (.aload_n 0, 1) := by decide +kernel
theorem dX4_free_5 : decode cX4_free 5 = .ok (.getfield 37, 3) := by decide +kernel
theorem dX4_free_8 : decode cX4_free 8 = .ok (.invokevirtual 221, 3) := by decide +kernel
theorem dX4_free_11 : decode cX4_free 11 = .ok (.aload_n 0, 1) := by decide +kernel
theorem dX4_free_12 : decode cX4_free 12 = .ok (.getfield 26, 3) := by decide +kernel
theorem dX4_free_15 : decode cX4_free 15 = .ok (.invokevirtual 224, 3) := by decide +kernel
theorem dX4_free_18 : decode cX4_free 18 = .ok (.iadd, 1) := by decide +kernel
theorem dX4_free_19 : decode cX4_free 19 = .ok (.istore_n 1, 1) := by decide +kernel
theorem dX4_free_20 : decode cX4_free 20 = .ok (.aload_n 0, 1) := by decide +kernel
theorem dX4_free_21 : decode cX4_free 21 = .ok (.getfield 115, 3) := by decide +kernel
theorem dX4_free_24 : decode cX4_free 24 = .ok (.iload_n 1, 1) := by decide +kernel
theorem dX4_free_25 : decode cX4_free 25 = .ok (.if_icmp .le 23, 3) := by decide +kernel
theorem dX4_free_28 : decode cX4_free 28 = .ok (.aload_n 0, 1) := by decide +kernel
theorem dX4_free_29 : decode cX4_free 29 = .ok (.dup, 1) := by decide +kernel
theorem dX4_free_30 : decode cX4_free 30 = .ok (.getfield 118, 3) := by decide +kernel
theorem dX4_free_33 : decode cX4_free 33 = .ok (.aload_n 0, 1) := by decide +kernel
theorem dX4_free_34 : decode cX4_free 34 = .ok (.getfield 115, 3) := by decide +kernel
theorem dX4_free_37 : decode cX4_free 37 = .ok (.iload_n 1, 1) := by decide +kernel
theorem dX4_free_38 : decode cX4_free 38 = .ok (.isub, 1) := by decide +kernel
theorem dX4_free_39 : decode cX4_free 39 = .ok (.iadd, 1) := by decide +kernel
theorem dX4_free_40 : decode cX4_free 40 = .ok (.putfield 118, 3) := by decide +kernel
theorem dX4_free_43 : decode cX4_free 43 = .ok (.aload_n 0, 1) := by decide +kernel
theorem dX4_free_44 : decode cX4_free 44 = .ok (.iload_n 1, 1) := by decide +kernel
theorem dX4_free_45 : decode cX4_free 45 = .ok (.putfield 115, 3) := by decide +kernel
theorem dX4_free_48 : decode cX4_free 48 = .ok (.return_, 1) := by decide +kernel
set_option maxRecDepth 20000 in
theorem ggX4_owe_X4_leftOutstanding : GoodIn wsX4_owe wsX4_leftOutstanding := goodIn_r _ [12, 13, 6, 14, 15, 16, 11, 17, 18, 19, 20, 21, 22, 23, 24, 25, 26, 27, 28, 29, 30, 31, 32, 33, 34, 35, 36, 37, 38, 39, 2, 3, 4, 40, 41, 42, 43, 44, 45, 46, 47, 48, 49, 50, 51, 52, 53, 54, 55, 56, 57, 58, 59, 60, 61, 62, 63, 64, 65, 66, 67, 68, 69] (by decide +kernel) (by decide +kernel)
set_option maxRecDepth 20000 in
theorem gX4_owe_X4_leftOutstanding : GoodIn wsX4_owe (wsV RX4 190 RX4 yX4_leftOutstanding wsX4_leftOutstanding) := goodIn_app (goodIn_of _ (by decide +kernel)) ggX4_owe_X4_leftOutstanding
theorem dX4_owe_0 : decode cX4_owe 0 = .ok (.iload_n 1, 1) := by decide +kernel
theorem dX4_owe_1 : decode cX4_owe 1 = .ok (.aload_n 0, 1) := by decide +kernel
theorem dX4_owe_2 : decode cX4_owe 2 = .ok (.invokevirtual 190, 3) := by decide +kernel
theorem dX4_owe_5 : decode cX4_owe 5 = .ok (.invokestatic 112, 3) := by decide +kernel
theorem dX4_owe_8 : decode cX4_owe 8 = .ok (.istore_n 2, 1) := by decide +kernel
theorem dX4_owe_9 : decode cX4_owe 9 = .ok (.aload_n 0, 1) := by decide +kernel
theorem dX4_owe_10 : decode cX4_owe 10 = .ok (.dup, 1) := by decide +kernel
theorem dX4_owe_11 : decode cX4_owe 11 = .ok (.getfield 184, 3) := by decide +kernel
theorem dX4_owe_14 : decode cX4_owe 14 = .ok (.iload_n 1, 1) := by decide +kernel
theorem dX4_owe_15 : decode cX4_owe 15 = .ok (.iadd, 1) := by decide +kernel
theorem dX4_owe_16 : decode cX4_owe 16 = .ok (.putfield 184, 3) := by decide +kernel
theorem dX4_owe_19 : decode cX4_owe 19 = .ok (.aload_n 0, 1) := by decide +kernel
theorem dX4_owe_20 : decode cX4_owe 20 = .ok (.dup, 1) := by decide +kernel
theorem dX4_owe_21 : decode cX4_owe 21 = .ok (.getfield 181, 3) := by decide +kernel
theorem dX4_owe_24 : decode cX4_owe 24 = .ok (.iload_n 2, 1) := by decide +kernel
theorem dX4_owe_25 : decode cX4_owe 25 = .ok (.iadd, 1) := by decide +kernel
theorem dX4_owe_26 : decode cX4_owe 26 = .ok (.putfield 181, 3) := by decide +kernel
theorem dX4_owe_29 : decode cX4_owe 29 = .ok (.aload_n 0, 1) := by decide +kernel
theorem dX4_owe_30 : decode cX4_owe 30 = .ok (.dup, 1) := by decide +kernel
theorem dX4_owe_31 : decode cX4_owe 31 = .ok (.getfield 118, 3) := by decide +kernel
theorem dX4_owe_34 : decode cX4_owe 34 = .ok (.iload_n 1, 1) := by decide +kernel
theorem dX4_owe_35 : decode cX4_owe 35 = .ok (.iload_n 2, 1) := by decide +kernel
theorem dX4_owe_36 : decode cX4_owe 36 = .ok (.isub, 1) := by decide +kernel
theorem dX4_owe_37 : decode cX4_owe 37 = .ok (.iadd, 1) := by decide +kernel
theorem dX4_owe_38 : decode cX4_owe 38 = .ok (.putfield 118, 3) := by decide +kernel
theorem dX4_owe_41 : decode cX4_owe 41 = .ok (.iload_n 1, 1) := by decide +kernel
theorem dX4_owe_42 : decode cX4_owe 42 = .ok (.ireturn, 1) := by decide +kernel
theorem dJ9_max_7cf53_0 : decode cJ9_max_7cf53 0 = .ok (.iload_n 0, 1) := by decide +kernel
theorem dJ9_max_7cf53_1 : decode cJ9_max_7cf53 1 = .ok (.iload_n 1, 1) := by decide +kernel
theorem dJ9_max_7cf53_2 : decode cJ9_max_7cf53 2 = .ok (.if_icmp .lt 7, 3) := by decide +kernel
theorem dJ9_max_7cf53_5 : decode cJ9_max_7cf53 5 = .ok (.iload_n 0, 1) := by decide +kernel
theorem dJ9_max_7cf53_6 : decode cJ9_max_7cf53 6 = .ok (.goto 4, 3) := by decide +kernel
theorem dJ9_max_7cf53_9 : decode cJ9_max_7cf53 9 = .ok (.iload_n 1, 1) := by decide +kernel
theorem dJ9_max_7cf53_10 : decode cJ9_max_7cf53 10 = .ok (.ireturn, 1) := by decide +kernel
theorem dJ9_min_7cf53_0 : decode cJ9_min_7cf53 0 = .ok (.iload_n 0, 1) := by decide +kernel
theorem dJ9_min_7cf53_1 : decode cJ9_min_7cf53 1 = .ok (.iload_n 1, 1) := by decide +kernel
theorem dJ9_min_7cf53_2 : decode cJ9_min_7cf53 2 = .ok (.if_icmp .gt 7, 3) := by decide +kernel
theorem dJ9_min_7cf53_5 : decode cJ9_min_7cf53 5 = .ok (.iload_n 0, 1) := by decide +kernel
theorem dJ9_min_7cf53_6 : decode cJ9_min_7cf53 6 = .ok (.goto 4, 3) := by decide +kernel
theorem dJ9_min_7cf53_9 : decode cJ9_min_7cf53 9 = .ok (.iload_n 1, 1) := by decide +kernel
theorem dJ9_min_7cf53_10 : decode cJ9_min_7cf53 10 = .ok (.ireturn, 1) := by decide +kernel
