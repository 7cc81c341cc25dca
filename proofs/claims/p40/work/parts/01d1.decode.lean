theorem dX4_becomeUnlike_7 : decode cX4_becomeUnlike 7 = .ok (.bipush 20, 2) := by decide +kernel
theorem dX4_becomeUnlike_9 : decode cX4_becomeUnlike 9 = .ok (.if_icmp .gt 51, 3) := by decide +kernel
theorem dX4_becomeUnlike_12 : decode cX4_becomeUnlike 12 = .ok (.aload_n 1, 1) := by decide +kernel
theorem dX4_becomeUnlike_13 : decode cX4_becomeUnlike 13 = .ok (.getfield 9, 3) := by decide +kernel
theorem dX4_becomeUnlike_16 : decode cX4_becomeUnlike 16 = .ok (.iload_n 2, 1) := by decide +kernel
theorem dX4_becomeUnlike_17 : decode cX4_becomeUnlike 17 = .ok (.iaload, 1) := by decide +kernel
theorem dX4_becomeUnlike_18 : decode cX4_becomeUnlike 18 = .ok (.istore_n 3, 1) := by decide +kernel
theorem dX4_becomeUnlike_19 : decode cX4_becomeUnlike 19 = .ok (.iconst 1, 1) := by decide +kernel
theorem dX4_becomeUnlike_20 : decode cX4_becomeUnlike 20 = .ok (.istore 4, 2) := by decide +kernel
theorem dX4_becomeUnlike_22 : decode cX4_becomeUnlike 22 = .ok (.iload 4, 2) := by decide +kernel
theorem dX4_becomeUnlike_24 : decode cX4_becomeUnlike 24 = .ok (.bipush 20, 2) := by decide +kernel
theorem dX4_becomeUnlike_26 : decode cX4_becomeUnlike 26 = .ok (.if_icmp .gt 28, 3) := by decide +kernel
theorem dX4_becomeUnlike_29 : decode cX4_becomeUnlike 29 = .ok (.iload_n 3, 1) := by decide +kernel
theorem dX4_becomeUnlike_30 : decode cX4_becomeUnlike 30 = .ok (.iload 4, 2) := by decide +kernel
theorem dX4_becomeUnlike_32 : decode cX4_becomeUnlike 32 = .ok (.iand, 1) := by decide +kernel
theorem dX4_becomeUnlike_33 : decode cX4_becomeUnlike 33 = .ok (.ifCond .eq 12, 3) := by decide +kernel
theorem dX4_becomeUnlike_36 : decode cX4_becomeUnlike 36 = .ok (.aload_n 0, 1) := by decide +kernel
theorem dX4_becomeUnlike_37 : decode cX4_becomeUnlike 37 = .ok (.iload 4, 2) := by decide +kernel
theorem dX4_becomeUnlike_39 : decode cX4_becomeUnlike 39 = .ok (.iload_n 2, 1) := by decide +kernel
theorem dX4_becomeUnlike_40 : decode cX4_becomeUnlike 40 = .ok (.imul, 1) := by decide +kernel
theorem dX4_becomeUnlike_41 : decode cX4_becomeUnlike 41 = .ok (.iconst 1, 1) := by decide +kernel
theorem dX4_becomeUnlike_42 : decode cX4_becomeUnlike 42 = .ok (.invokevirtual 56, 3) := by decide +kernel
theorem dX4_becomeUnlike_45 : decode cX4_becomeUnlike 45 = .ok (.iload 4, 2) := by decide +kernel
theorem dX4_becomeUnlike_47 : decode cX4_becomeUnlike 47 = .ok (.iconst 2, 1) := by decide +kernel
theorem dX4_becomeUnlike_48 : decode cX4_becomeUnlike 48 = .ok (.imul, 1) := by decide +kernel
theorem dX4_becomeUnlike_49 : decode cX4_becomeUnlike 49 = .ok (.istore 4, 2) := by decide +kernel
theorem dX4_becomeUnlike_51 : decode cX4_becomeUnlike 51 = .ok (.goto (-29), 3) := by decide +kernel
theorem dX4_becomeUnlike_54 : decode cX4_becomeUnlike 54 = .ok (.iinc 2 1, 3) := by decide +kernel
theorem dX4_becomeUnlike_57 : decode cX4_becomeUnlike 57 = .ok (.goto (-51), 3) := by decide +kernel
theorem dX4_becomeUnlike_60 : decode cX4_becomeUnlike 60 = .ok (.return_, 1) := by decide +kernel
theorem dX4_becomeOdd_0 : decode cX4_becomeOdd 0 = .ok (.aload_n 0, 1) := by decide +kernel
theorem dX4_becomeOdd_1 : decode cX4_becomeOdd 1 = .ok (.invokevirtual 53, 3) := by decide +kernel
theorem dX4_becomeOdd_4 : decode cX4_becomeOdd 4 = .ok (.iconst 1, 1) := by decide +kernel
theorem dX4_becomeOdd_5 : decode cX4_becomeOdd 5 = .ok (.istore_n 2, 1) := by decide +kernel
theorem dX4_becomeOdd_6 : decode cX4_becomeOdd 6 = .ok (.iload_n 2, 1) := by decide +kernel
theorem dX4_becomeOdd_7 : decode cX4_becomeOdd 7 = .ok (.bipush 20, 2) := by decide +kernel
theorem dX4_becomeOdd_9 : decode cX4_becomeOdd 9 = .ok (.if_icmp .gt 33, 3) := by decide +kernel
theorem dX4_becomeOdd_12 : decode cX4_becomeOdd 12 = .ok (.iload_n 2, 1) := by decide +kernel
theorem dX4_becomeOdd_13 : decode cX4_becomeOdd 13 = .ok (.iload_n 2, 1) := by decide +kernel
theorem dX4_becomeOdd_14 : decode cX4_becomeOdd 14 = .ok (.ineg, 1) := by decide +kernel
theorem dX4_becomeOdd_15 : decode cX4_becomeOdd 15 = .ok (.iand, 1) := by decide +kernel
theorem dX4_becomeOdd_16 : decode cX4_becomeOdd 16 = .ok (.istore_n 3, 1) := by decide +kernel
theorem dX4_becomeOdd_17 : decode cX4_becomeOdd 17 = .ok (.iload_n 3, 1) := by decide +kernel
theorem dX4_becomeOdd_18 : decode cX4_becomeOdd 18 = .ok (.ifCond .le 18, 3) := by decide +kernel
theorem dX4_becomeOdd_21 : decode cX4_becomeOdd 21 = .ok (.aload_n 0, 1) := by decide +kernel
theorem dX4_becomeOdd_22 : decode cX4_becomeOdd 22 = .ok (.iload_n 2, 1) := by decide +kernel
theorem dX4_becomeOdd_23 : decode cX4_becomeOdd 23 = .ok (.iload_n 3, 1) := by decide +kernel
theorem dX4_becomeOdd_24 : decode cX4_becomeOdd 24 = .ok (.idiv, 1) := by decide +kernel
theorem dX4_becomeOdd_25 : decode cX4_becomeOdd 25 = .ok (.iload_n 3, 1) := by decide +kernel
theorem dX4_becomeOdd_26 : decode cX4_becomeOdd 26 = .ok (.aload_n 1, 1) := by decide +kernel
theorem dX4_becomeOdd_27 : decode cX4_becomeOdd 27 = .ok (.getfield 9, 3) := by decide +kernel
theorem dX4_becomeOdd_30 : decode cX4_becomeOdd 30 = .ok (.iload_n 2, 1) := by decide +kernel
theorem dX4_becomeOdd_31 : decode cX4_becomeOdd 31 = .ok (.iaload, 1) := by decide +kernel
theorem dX4_becomeOdd_32 : decode cX4_becomeOdd 32 = .ok (.imul, 1) := by decide +kernel
theorem dX4_becomeOdd_33 : decode cX4_becomeOdd 33 = .ok (.invokevirtual 56, 3) := by decide +kernel
theorem dX4_becomeOdd_36 : decode cX4_becomeOdd 36 = .ok (.iinc 2 1, 3) := by decide +kernel
theorem dX4_becomeOdd_39 : decode cX4_becomeOdd 39 = .ok (.goto (-33), 3) := by decide +kernel
theorem dX4_becomeOdd_42 : decode cX4_becomeOdd 42 = .ok (.return_, 1) := by decide +kernel
theorem dX4_stepOn_0 : decode cX4_stepOn 0 = .ok (.aload_n 0, 1) := by decide +kernel
theorem dX4_stepOn_1 : decode cX4_stepOn 1 = .ok (.invokevirtual 60, 3) := by decide +kernel
theorem dX4_stepOn_4 : decode cX4_stepOn 4 = .ok (.istore_n 1, 1) := by decide +kernel
theorem dX4_stepOn_5 : decode cX4_stepOn 5 = .ok (.iload_n 1, 1) := by decide +kernel
theorem dX4_stepOn_6 : decode cX4_stepOn 6 = .ok (.iconst 2, 1) := by decide +kernel
theorem dX4_stepOn_7 : decode cX4_stepOn 7 = .ok (.if_icmp .lt 9, 3) := by decide +kernel
theorem dX4_stepOn_10 : decode cX4_stepOn 10 = .ok (.iload_n 1, 1) := by decide +kernel
theorem dX4_stepOn_11 : decode cX4_stepOn 11 = .ok (.bipush 20, 2) := by decide +kernel
theorem dX4_stepOn_13 : decode cX4_stepOn 13 = .ok (.if_icmp .le 5, 3) := by decide +kernel
theorem dX4_stepOn_16 : decode cX4_stepOn 16 = .ok (.iconst 0, 1) := by decide +kernel
theorem dX4_stepOn_17 : decode cX4_stepOn 17 = .ok (.ireturn, 1) := by decide +kernel
theorem dX4_stepOn_18 : decode cX4_stepOn 18 = .ok (.iload_n 1, 1) := by decide +kernel
theorem dX4_stepOn_19 : decode cX4_stepOn 19 = .ok (.iconst 1, 1) := by decide +kernel
theorem dX4_stepOn_20 : decode cX4_stepOn 20 = .ok (.isub, 1) := by decide +kernel
theorem dX4_stepOn_21 : decode cX4_stepOn 21 = .ok (.istore_n 2, 1) := by decide +kernel
theorem dX4_stepOn_22 : decode cX4_stepOn 22 = .ok (.iload_n 1, 1) := by decide +kernel
theorem dX4_stepOn_23 : decode cX4_stepOn 23 = .ok (.aload_n 0, 1) := by decide +kernel
theorem dX4_stepOn_24 : decode cX4_stepOn 24 = .ok (.getfield 9, 3) := by decide +kernel
theorem dX4_stepOn_27 : decode cX4_stepOn 27 = .ok (.iconst 1, 1) := by decide +kernel
theorem dX4_stepOn_28 : decode cX4_stepOn 28 = .ok (.iaload, 1) := by decide +kernel
theorem dX4_stepOn_29 : decode cX4_stepOn 29 = .ok (.iadd, 1) := by decide +kernel
theorem dX4_stepOn_30 : decode cX4_stepOn 30 = .ok (.istore_n 3, 1) := by decide +kernel
theorem dX4_stepOn_31 : decode cX4_stepOn 31 = .ok (.aload_n 0, 1) := by decide +kernel
theorem dX4_stepOn_32 : decode cX4_stepOn 32 = .ok (.getfield 9, 3) := by decide +kernel
theorem dX4_stepOn_35 : decode cX4_stepOn 35 = .ok (.iload_n 1, 1) := by decide +kernel
theorem dX4_stepOn_36 : decode cX4_stepOn 36 = .ok (.dup2, 1) := by decide +kernel
theorem dX4_stepOn_37 : decode cX4_stepOn 37 = .ok (.iaload, 1) := by decide +kernel
theorem dX4_stepOn_38 : decode cX4_stepOn 38 = .ok (.iconst 1, 1) := by decide +kernel
theorem dX4_stepOn_39 : decode cX4_stepOn 39 = .ok (.isub, 1) := by decide +kernel
theorem dX4_stepOn_40 : decode cX4_stepOn 40 = .ok (.iastore, 1) := by decide +kernel
theorem dX4_stepOn_41 : decode cX4_stepOn 41 = .ok (.aload_n 0, 1) := by decide +kernel
theorem dX4_stepOn_42 : decode cX4_stepOn 42 = .ok (.getfield 9, 3) := by decide +kernel
theorem dX4_stepOn_45 : decode cX4_stepOn 45 = .ok (.iconst 1, 1) := by decide +kernel
theorem dX4_stepOn_46 : decode cX4_stepOn 46 = .ok (.iconst 0, 1) := by decide +kernel
theorem dX4_stepOn_47 : decode cX4_stepOn 47 = .ok (.iastore, 1) := by decide +kernel
theorem dX4_stepOn_48 : decode cX4_stepOn 48 = .ok (.aload_n 0, 1) := by decide +kernel
theorem dX4_stepOn_49 : decode cX4_stepOn 49 = .ok (.iload_n 2, 1) := by decide +kernel
theorem dX4_stepOn_50 : decode cX4_stepOn 50 = .ok (.iload_n 3, 1) := by decide +kernel
theorem dX4_stepOn_51 : decode cX4_stepOn 51 = .ok (.iload_n 2, 1) := by decide +kernel
theorem dX4_stepOn_52 : decode cX4_stepOn 52 = .ok (.idiv, 1) := by decide +kernel
theorem dX4_stepOn_53 : decode cX4_stepOn 53 = .ok (.invokevirtual 56, 3) := by decide +kernel
theorem dX4_stepOn_56 : decode cX4_stepOn 56 = .ok (.aload_n 0, 1) := by decide +kernel
theorem dX4_stepOn_57 : decode cX4_stepOn 57 = .ok (.iload_n 3, 1) := by decide +kernel
theorem dX4_stepOn_58 : decode cX4_stepOn 58 = .ok (.iload_n 2, 1) := by decide +kernel
theorem dX4_stepOn_59 : decode cX4_stepOn 59 = .ok (.irem, 1) := by decide +kernel
theorem dX4_stepOn_60 : decode cX4_stepOn 60 = .ok (.iconst 1, 1) := by decide +kernel
theorem dX4_stepOn_61 : decode cX4_stepOn 61 = .ok (.invokevirtual 56, 3) := by decide +kernel
theorem dX4_stepOn_64 : decode cX4_stepOn 64 = .ok (.iconst 1, 1) := by decide +kernel
theorem dX4_stepOn_65 : decode cX4_stepOn 65 = .ok (.ireturn, 1) := by decide +kernel
theorem dX4_leastAboveOne_0 : decode cX4_leastAboveOne 0 = .ok (.iconst 2, 1) := by decide +kernel
theorem dX4_leastAboveOne_1 : decode cX4_leastAboveOne 1 = .ok (.istore_n 1, 1) := by decide +kernel
theorem dX4_leastAboveOne_2 : decode cX4_leastAboveOne 2 = .ok (.iload_n 1, 1) := by decide +kernel
theorem dX4_leastAboveOne_3 : decode cX4_leastAboveOne 3 = .ok (.bipush 20, 2) := by decide +kernel
theorem dX4_leastAboveOne_5 : decode cX4_leastAboveOne 5 = .ok (.if_icmp .gt 20, 3) := by decide +kernel
theorem dX4_leastAboveOne_8 : decode cX4_leastAboveOne 8 = .ok (.aload_n 0, 1) := by decide +kernel
theorem dX4_leastAboveOne_9 : decode cX4_leastAboveOne 9 = .ok (.getfield 9, 3) := by decide +kernel
theorem dX4_leastAboveOne_12 : decode cX4_leastAboveOne 12 = .ok (.iload_n 1, 1) := by decide +kernel
theorem dX4_leastAboveOne_13 : decode cX4_leastAboveOne 13 = .ok (.iaload, 1) := by decide +kernel
theorem dX4_leastAboveOne_14 : decode cX4_leastAboveOne 14 = .ok (.ifCond .le 5, 3) := by decide +kernel
theorem dX4_leastAboveOne_17 : decode cX4_leastAboveOne 17 = .ok (.iload_n 1, 1) := by decide +kernel
theorem dX4_leastAboveOne_18 : decode cX4_leastAboveOne 18 = .ok (.ireturn, 1) := by decide +kernel
theorem dX4_leastAboveOne_19 : decode cX4_leastAboveOne 19 = .ok (.iinc 1 1, 3) := by decide +kernel
theorem dX4_leastAboveOne_22 : decode cX4_leastAboveOne 22 = .ok (.goto (-20), 3) := by decide +kernel
theorem dX4_leastAboveOne_25 : decode cX4_leastAboveOne 25 = .ok (.iconst 0, 1) := by decide +kernel
theorem dX4_leastAboveOne_26 : decode cX4_leastAboveOne 26 = .ok (.ireturn, 1) := by decide +kernel
theorem dX4_text_0 : decode cX4_text 0 = .ok (.new 63, 3) := by decide +kernel
theorem dX4_text_3 : decode cX4_text 3 = .ok (.dup, 1) := by decide +kernel
theorem dX4_text_4 : decode cX4_text 4 = .ok (.invokespecial 65, 3) := by decide +kernel
theorem dX4_text_7 : decode cX4_text 7 = .ok (.astore_n 1, 1) := by decide +kernel
theorem dX4_text_8 : decode cX4_text 8 = .ok (.bipush 20, 2) := by decide +kernel
theorem dX4_text_10 : decode cX4_text 10 = .ok (.istore_n 2, 1) := by decide +kernel
theorem dX4_text_11 : decode cX4_text 11 = .ok (.iload_n 2, 1) := by decide +kernel
theorem dX4_text_12 : decode cX4_text 12 = .ok (.iconst 1, 1) := by decide +kernel
theorem dX4_text_13 : decode cX4_text 13 = .ok (.if_icmp .lt 46, 3) := by decide +kernel
theorem dX4_text_16 : decode cX4_text 16 = .ok (.aload_n 0, 1) := by decide +kernel
theorem dX4_text_17 : decode cX4_text 17 = .ok (.getfield 9, 3) := by decide +kernel
theorem dX4_text_20 : decode cX4_text 20 = .ok (.iload_n 2, 1) := by decide +kernel
theorem dX4_text_21 : decode cX4_text 21 = .ok (.iaload, 1) := by decide +kernel
theorem dX4_text_22 : decode cX4_text 22 = .ok (.istore_n 3, 1) := by decide +kernel
theorem dX4_text_23 : decode cX4_text 23 = .ok (.iload_n 3, 1) := by decide +kernel
theorem dX4_text_24 : decode cX4_text 24 = .ok (.ifCond .le 29, 3) := by decide +kernel
theorem dX4_text_27 : decode cX4_text 27 = .ok (.aload_n 1, 1) := by decide +kernel
theorem dX4_text_28 : decode cX4_text 28 = .ok (.invokevirtual 66, 3) := by decide +kernel
theorem dX4_text_31 : decode cX4_text 31 = .ok (.ifCond .le 10, 3) := by decide +kernel
theorem dX4_text_34 : decode cX4_text 34 = .ok (.aload_n 1, 1) := by decide +kernel
theorem dX4_text_35 : decode cX4_text 35 = .ok (.bipush 43, 2) := by decide +kernel
theorem dX4_text_37 : decode cX4_text 37 = .ok (.invokevirtual 69, 3) := by decide +kernel
theorem dX4_text_40 : decode cX4_text 40 = .ok (.pop, 1) := by decide +kernel
theorem dX4_text_41 : decode cX4_text 41 = .ok (.aload_n 1, 1) := by decide +kernel
theorem dX4_text_42 : decode cX4_text 42 = .ok (.iload_n 2, 1) := by decide +kernel
theorem dX4_text_43 : decode cX4_text 43 = .ok (.invokevirtual 73, 3) := by decide +kernel
theorem dX4_text_46 : decode cX4_text 46 = .ok (.pop, 1) := by decide +kernel
theorem dX4_text_47 : decode cX4_text 47 = .ok (.iinc 3 (-1), 3) := by decide +kernel
theorem dX4_text_50 : decode cX4_text 50 = .ok (.goto (-27), 3) := by decide +kernel
theorem dX4_text_53 : decode cX4_text 53 = .ok (.iinc 2 (-1), 3) := by decide +kernel
theorem dX4_text_56 : decode cX4_text 56 = .ok (.goto (-45), 3) := by decide +kernel
theorem dX4_text_59 : decode cX4_text 59 = .ok (.aload_n 1, 1) := by decide +kernel
theorem dX4_text_60 : decode cX4_text 60 = .ok (.invokevirtual 76, 3) := by decide +kernel
theorem dX4_text_63 : decode cX4_text 63 = .ok (.areturn, 1) := by decide +kernel
theorem dX5_init_0 : decode cX5_init 0 = .ok (.aload_n 0, 1) := by decide +kernel
theorem dX5_init_1 : decode cX5_init 1 = .ok (.invokespecial 1, 3) := by decide +kernel
theorem dX5_init_4 : decode cX5_init 4 = .ok (.aload_n 0, 1) := by decide +kernel
theorem dX5_init_5 : decode cX5_init 5 = .ok (.iconst 3, 1) := by decide +kernel
theorem dX5_init_6 : decode cX5_init 6 = .ok (.anewarray 9, 3) := by decide +kernel
theorem dX5_init_9 : decode cX5_init 9 = .ok (.putfield 11, 3) := by decide +kernel
theorem dX5_init_12 : decode cX5_init 12 = .ok (.iconst 0, 1) := by decide +kernel
theorem dX5_init_13 : decode cX5_init 13 = .ok (.istore_n 1, 1) := by decide +kernel
theorem dX5_init_14 : decode cX5_init 14 = .ok (.iload_n 1, 1) := by decide +kernel
theorem dX5_init_15 : decode cX5_init 15 = .ok (.aload_n 0, 1) := by decide +kernel
theorem dX5_init_16 : decode cX5_init 16 = .ok (.getfield 11, 3) := by decide +kernel
theorem dX5_init_19 : decode cX5_init 19 = .ok (.arraylength, 1) := by decide +kernel
theorem dX5_init_20 : decode cX5_init 20 = .ok (.if_icmp .ge 22, 3) := by decide +kernel
theorem dX5_init_23 : decode cX5_init 23 = .ok (.aload_n 0, 1) := by decide +kernel
theorem dX5_init_24 : decode cX5_init 24 = .ok (.getfield 11, 3) := by decide +kernel
theorem dX5_init_27 : decode cX5_init 27 = .ok (.iload_n 1, 1) := by decide +kernel
theorem dX5_init_28 : decode cX5_init 28 = .ok (.new 9, 3) := by decide +kernel
theorem dX5_init_31 : decode cX5_init 31 = .ok (.dup, 1) := by decide +kernel
theorem dX5_init_32 : decode cX5_init 32 = .ok (.invokespecial 15, 3) := by decide +kernel
theorem dX5_init_35 : decode cX5_init 35 = .ok (.aastore, 1) := by decide +kernel
theorem dX5_init_36 : decode cX5_init 36 = .ok (.iinc 1 1, 3) := by decide +kernel
theorem dX5_init_39 : decode cX5_init 39 = .ok (.goto (-25), 3) := by decide +kernel
theorem dX5_init_42 : decode cX5_init 42 = .ok (.aload_n 0, 1) := by decide +kernel
theorem dX5_init_43 : decode cX5_init 43 = .ok (.iconst 3, 1) := by decide +kernel
theorem dX5_init_44 : decode cX5_init 44 = .ok (.anewarray 16, 3) := by decide +kernel
theorem dX5_init_47 : decode cX5_init 47 = .ok (.putfield 18, 3) := by decide +kernel
theorem dX5_init_50 : decode cX5_init 50 = .ok (.iconst 0, 1) := by decide +kernel
theorem dX5_init_51 : decode cX5_init 51 = .ok (.istore_n 1, 1) := by decide +kernel
theorem dX5_init_52 : decode cX5_init 52 = .ok (.iload_n 1, 1) := by decide +kernel
theorem dX5_init_53 : decode cX5_init 53 = .ok (.aload_n 0, 1) := by decide +kernel
theorem dX5_init_54 : decode cX5_init 54 = .ok (.getfield 18, 3) := by decide +kernel
theorem dX5_init_57 : decode cX5_init 57 = .ok (.arraylength, 1) := by decide +kernel
theorem dX5_init_58 : decode cX5_init 58 = .ok (.if_icmp .ge 23, 3) := by decide +kernel
theorem dX5_init_61 : decode cX5_init 61 = .ok (.aload_n 0, 1) := by decide +kernel
theorem dX5_init_62 : decode cX5_init 62 = .ok (.getfield 18, 3) := by decide +kernel
theorem dX5_init_65 : decode cX5_init 65 = .ok (.iload_n 1, 1) := by decide +kernel
theorem dX5_init_66 : decode cX5_init 66 = .ok (.new 16, 3) := by decide +kernel
theorem dX5_init_69 : decode cX5_init 69 = .ok (.dup, 1) := by decide +kernel
theorem dX5_init_70 : decode cX5_init 70 = .ok (.iload_n 1, 1) := by decide +kernel
theorem dX5_init_71 : decode cX5_init 71 = .ok (.invokespecial 22, 3) := by decide +kernel
theorem dX5_init_74 : decode cX5_init 74 = .ok (.aastore, 1) := by decide +kernel
theorem dX5_init_75 : decode cX5_init 75 = .ok (.iinc 1 1, 3) := by decide +kernel
theorem dX5_init_78 : decode cX5_init 78 = .ok (.goto (-26), 3) := by decide +kernel
theorem dX5_init_81 : decode cX5_init 81 = .ok (.aload_n 0, 1) := by decide +kernel
theorem dX5_init_82 : decode cX5_init 82 = .ok (.iconst 2, 1) := by decide +kernel
theorem dX5_init_83 : decode cX5_init 83 = .ok (.anewarray 25, 3) := by decide +kernel
theorem dX5_init_86 : decode cX5_init 86 = .ok (.putfield 27, 3) := by decide +kernel
theorem dX5_init_89 : decode cX5_init 89 = .ok (.iconst 0, 1) := by decide +kernel
theorem dX5_init_90 : decode cX5_init 90 = .ok (.istore_n 1, 1) := by decide +kernel
theorem dX5_init_91 : decode cX5_init 91 = .ok (.iload_n 1, 1) := by decide +kernel
theorem dX5_init_92 : decode cX5_init 92 = .ok (.aload_n 0, 1) := by decide +kernel
theorem dX5_init_93 : decode cX5_init 93 = .ok (.getfield 27, 3) := by decide +kernel
theorem dX5_init_96 : decode cX5_init 96 = .ok (.arraylength, 1) := by decide +kernel
theorem dX5_init_97 : decode cX5_init 97 = .ok (.if_icmp .ge 22, 3) := by decide +kernel
theorem dX5_init_100 : decode cX5_init 100 = .ok (.aload_n 0, 1) := by decide +kernel
theorem dX5_init_101 : decode cX5_init 101 = .ok (.getfield 27, 3) := by decide +kernel
theorem dX5_init_104 : decode cX5_init 104 = .ok (.iload_n 1, 1) := by decide +kernel
theorem dX5_init_105 : decode cX5_init 105 = .ok (.new 25, 3) := by decide +kernel
theorem dX5_init_108 : decode cX5_init 108 = .ok (.dup, 1) := by decide +kernel
theorem dX5_init_109 : decode cX5_init 109 = .ok (.invokespecial 31, 3) := by decide +kernel
theorem dX5_init_112 : decode cX5_init 112 = .ok (.aastore, 1) := by decide +kernel
theorem dX5_init_113 : decode cX5_init 113 = .ok (.iinc 1 1, 3) := by decide +kernel
theorem dX5_init_116 : decode cX5_init 116 = .ok (.goto (-25), 3) := by decide +kernel
theorem dX5_init_119 : decode cX5_init 119 = .ok (.aload_n 0, 1) := by decide +kernel
theorem dX5_init_120 : decode cX5_init 120 = .ok (.new 32, 3) := by decide +kernel
theorem dX5_init_123 : decode cX5_init 123 = .ok (.dup, 1) := by decide +kernel
theorem dX5_init_124 : decode cX5_init 124 = .ok (.invokespecial 34, 3) := by decide +kernel
theorem dX5_init_127 : decode cX5_init 127 = .ok (.putfield 35, 3) := by decide +kernel
theorem dX5_init_130 : decode cX5_init 130 = .ok (.aload_n 0, 1) := by decide +kernel
theorem dX5_init_131 : decode cX5_init 131 = .ok (.new 39, 3) := by decide +kernel
theorem dX5_init_134 : decode cX5_init 134 = .ok (.dup, 1) := by decide +kernel
theorem dX5_init_135 : decode cX5_init 135 = .ok (.invokespecial 41, 3) := by decide +kernel
theorem dX5_init_138 : decode cX5_init 138 = .ok (.putfield 42, 3) := by decide +kernel
theorem dX5_init_141 : decode cX5_init 141 = .ok (.aload_n 0, 1) := by decide +kernel
theorem dX5_init_142 : decode cX5_init 142 = .ok (.new 25, 3) := by decide +kernel
theorem dX5_init_145 : decode cX5_init 145 = .ok (.dup, 1) := by decide +kernel
theorem dX5_init_146 : decode cX5_init 146 = .ok (.invokespecial 31, 3) := by decide +kernel
theorem dX5_init_149 : decode cX5_init 149 = .ok (.putfield 46, 3) := by decide +kernel
theorem dX5_init_152 : decode cX5_init 152 = .ok (.aload_n 0, 1) := by decide +kernel
theorem dX5_init_153 : decode cX5_init 153 = .ok (.new 25, 3) := by decide +kernel
theorem dX5_init_156 : decode cX5_init 156 = .ok (.dup, 1) := by decide +kernel
theorem dX5_init_157 : decode cX5_init 157 = .ok (.invokespecial 31, 3) := by decide +kernel
theorem dX5_init_160 : decode cX5_init 160 = .ok (.putfield 50, 3) := by decide +kernel
theorem dX5_init_163 : decode cX5_init 163 = .ok (.return_, 1) := by decide +kernel
theorem dX5_know_0 : decode cX5_know 0 = .ok (.aload_n 0, 1) := by decide +kernel
theorem dX5_know_1 : decode cX5_know 1 = .ok (.iload_n 1, 1) := by decide +kernel
theorem dX5_know_2 : decode cX5_know 2 = .ok (.invokevirtual 53, 3) := by decide +kernel
theorem dX5_know_5 : decode cX5_know 5 = .ok (.astore 5, 2) := by decide +kernel
theorem dX5_know_7 : decode cX5_know 7 = .ok (.iload_n 2, 1) := by decide +kernel
theorem dX5_know_8 : decode cX5_know 8 = .ok (.iload_n 3, 1) := by decide +kernel
theorem dX5_know_9 : decode cX5_know 9 = .ok (.iload 4, 2) := by decide +kernel
theorem dX5_know_11 : decode cX5_know 11 = .ok (.invokestatic 57, 3) := by decide +kernel
theorem dX5_know_14 : decode cX5_know 14 = .ok (.aload_n 0, 1) := by decide +kernel
theorem dX5_know_15 : decode cX5_know 15 = .ok (.aload 5, 2) := by decide +kernel
theorem dX5_know_17 : decode cX5_know 17 = .ok (.iload_n 2, 1) := by decide +kernel
theorem dX5_know_18 : decode cX5_know 18 = .ok (.iload_n 3, 1) := by decide +kernel
theorem dX5_know_19 : decode cX5_know 19 = .ok (.iload 4, 2) := by decide +kernel
theorem dX5_know_21 : decode cX5_know 21 = .ok (.aload_n 0, 1) := by decide +kernel
theorem dX5_know_22 : decode cX5_know 22 = .ok (.getfield 35, 3) := by decide +kernel
theorem dX5_know_25 : decode cX5_know 25 = .ok (.invokevirtual 61, 3) := by decide +kernel
theorem dX5_know_28 : decode cX5_know 28 = .ok (.invokevirtual 65, 3) := by decide +kernel
theorem dX5_know_31 : decode cX5_know 31 = .ok (.ireturn, 1) := by decide +kernel
theorem dX5_few_0 : decode cX5_few 0 = .ok (.aload_n 0, 1) := by decide +kernel
theorem dX5_few_1 : decode cX5_few 1 = .ok (.iload_n 1, 1) := by decide +kernel
theorem dX5_few_2 : decode cX5_few 2 = .ok (.invokevirtual 53, 3) := by decide +kernel
theorem dX5_few_5 : decode cX5_few 5 = .ok (.astore 4, 2) := by decide +kernel
theorem dX5_few_7 : decode cX5_few 7 = .ok (.iload_n 2, 1) := by decide +kernel
theorem dX5_few_8 : decode cX5_few 8 = .ok (.iconst 0, 1) := by decide +kernel
theorem dX5_few_9 : decode cX5_few 9 = .ok (.bipush 20, 2) := by decide +kernel
theorem dX5_few_11 : decode cX5_few 11 = .ok (.invokestatic 69, 3) := by decide +kernel
theorem dX5_few_14 : decode cX5_few 14 = .ok (.iload_n 3, 1) := by decide +kernel
theorem dX5_few_15 : decode cX5_few 15 = .ok (.iconst 0, 1) := by decide +kernel
theorem dX5_few_16 : decode cX5_few 16 = .ok (.bipush 20, 2) := by decide +kernel
theorem dX5_few_18 : decode cX5_few 18 = .ok (.invokestatic 69, 3) := by decide +kernel
theorem dX5_few_21 : decode cX5_few 21 = .ok (.iconst 0, 1) := by decide +kernel
theorem dX5_few_22 : decode cX5_few 22 = .ok (.istore 5, 2) := by decide +kernel
theorem dX5_few_24 : decode cX5_few 24 = .ok (.iconst 0, 1) := by decide +kernel
theorem dX5_few_25 : decode cX5_few 25 = .ok (.istore 6, 2) := by decide +kernel
theorem dX5_few_27 : decode cX5_few 27 = .ok (.iload 6, 2) := by decide +kernel
theorem dX5_few_29 : decode cX5_few 29 = .ok (.iload_n 3, 1) := by decide +kernel
theorem dX5_few_30 : decode cX5_few 30 = .ok (.if_icmp .gt 27, 3) := by decide +kernel
theorem dX5_few_33 : decode cX5_few 33 = .ok (.iload 5, 2) := by decide +kernel
theorem dX5_few_35 : decode cX5_few 35 = .ok (.aload 4, 2) := by decide +kernel
theorem dX5_few_37 : decode cX5_few 37 = .ok (.iconst 1, 1) := by decide +kernel
theorem dX5_few_38 : decode cX5_few 38 = .ok (.iload_n 2, 1) := by decide +kernel
theorem dX5_few_39 : decode cX5_few 39 = .ok (.iload 6, 2) := by decide +kernel
theorem dX5_few_41 : decode cX5_few 41 = .ok (.aload_n 0, 1) := by decide +kernel
theorem dX5_few_42 : decode cX5_few 42 = .ok (.getfield 35, 3) := by decide +kernel
theorem dX5_few_45 : decode cX5_few 45 = .ok (.invokevirtual 61, 3) := by decide +kernel
theorem dX5_few_48 : decode cX5_few 48 = .ok (.iadd, 1) := by decide +kernel
theorem dX5_few_49 : decode cX5_few 49 = .ok (.istore 5, 2) := by decide +kernel
theorem dX5_few_51 : decode cX5_few 51 = .ok (.iinc 6 1, 3) := by decide +kernel
theorem dX5_few_54 : decode cX5_few 54 = .ok (.goto (-27), 3) := by decide +kernel
theorem dX5_few_57 : decode cX5_few 57 = .ok (.aload_n 0, 1) := by decide +kernel
theorem dX5_few_58 : decode cX5_few 58 = .ok (.iload 5, 2) := by decide +kernel
theorem dX5_few_60 : decode cX5_few 60 = .ok (.invokevirtual 65, 3) := by decide +kernel
theorem dX5_few_63 : decode cX5_few 63 = .ok (.ireturn, 1) := by decide +kernel
theorem dX5_surplus_0 : decode cX5_surplus 0 = .ok (.aload_n 0, 1) := by decide +kernel
theorem dX5_surplus_1 : decode cX5_surplus 1 = .ok (.iload_n 1, 1) := by decide +kernel
theorem dX5_surplus_2 : decode cX5_surplus 2 = .ok (.invokevirtual 53, 3) := by decide +kernel
theorem dX5_surplus_5 : decode cX5_surplus 5 = .ok (.astore_n 3, 1) := by decide +kernel
theorem dX5_surplus_6 : decode cX5_surplus 6 = .ok (.iload_n 2, 1) := by decide +kernel
theorem dX5_surplus_7 : decode cX5_surplus 7 = .ok (.iconst 0, 1) := by decide +kernel
theorem dX5_surplus_8 : decode cX5_surplus 8 = .ok (.bipush 20, 2) := by decide +kernel
theorem dX5_surplus_10 : decode cX5_surplus 10 = .ok (.invokestatic 69, 3) := by decide +kernel
theorem dX5_surplus_13 : decode cX5_surplus 13 = .ok (.iconst 0, 1) := by decide +kernel
theorem dX5_surplus_14 : decode cX5_surplus 14 = .ok (.istore 4, 2) := by decide +kernel
theorem dX5_surplus_16 : decode cX5_surplus 16 = .ok (.iconst 0, 1) := by decide +kernel
theorem dX5_surplus_17 : decode cX5_surplus 17 = .ok (.istore 5, 2) := by decide +kernel
theorem dX5_surplus_19 : decode cX5_surplus 19 = .ok (.iload 5, 2) := by decide +kernel
theorem dX5_surplus_21 : decode cX5_surplus 21 = .ok (.iload_n 2, 1) := by decide +kernel
theorem dX5_surplus_22 : decode cX5_surplus 22 = .ok (.if_icmp .gt 43, 3) := by decide +kernel
theorem dX5_surplus_25 : decode cX5_surplus 25 = .ok (.aload_n 3, 1) := by decide +kernel
theorem dX5_surplus_26 : decode cX5_surplus 26 = .ok (.iconst 5, 1) := by decide +kernel
theorem dX5_surplus_27 : decode cX5_surplus 27 = .ok (.iload_n 2, 1) := by decide +kernel
theorem dX5_surplus_28 : decode cX5_surplus 28 = .ok (.iload 5, 2) := by decide +kernel
theorem dX5_surplus_30 : decode cX5_surplus 30 = .ok (.aload_n 0, 1) := by decide +kernel
theorem dX5_surplus_31 : decode cX5_surplus 31 = .ok (.getfield 35, 3) := by decide +kernel
theorem dX5_surplus_34 : decode cX5_surplus 34 = .ok (.invokevirtual 61, 3) := by decide +kernel
theorem dX5_surplus_37 : decode cX5_surplus 37 = .ok (.istore 6, 2) := by decide +kernel
theorem dX5_surplus_39 : decode cX5_surplus 39 = .ok (.iload 4, 2) := by decide +kernel
theorem dX5_surplus_41 : decode cX5_surplus 41 = .ok (.iload 5, 2) := by decide +kernel
theorem dX5_surplus_43 : decode cX5_surplus 43 = .ok (.iconst 2, 1) := by decide +kernel
theorem dX5_surplus_44 : decode cX5_surplus 44 = .ok (.irem, 1) := by decide +kernel
theorem dX5_surplus_45 : decode cX5_surplus 45 = .ok (.ifCond .ne 8, 3) := by decide +kernel
theorem dX5_surplus_48 : decode cX5_surplus 48 = .ok (.iload 6, 2) := by decide +kernel
theorem dX5_surplus_50 : decode cX5_surplus 50 = .ok (.goto 6, 3) := by decide +kernel
theorem dX5_surplus_53 : decode cX5_surplus 53 = .ok (.iload 6, 2) := by decide +kernel
theorem dX5_surplus_55 : decode cX5_surplus 55 = .ok (.ineg, 1) := by decide +kernel
theorem dX5_surplus_56 : decode cX5_surplus 56 = .ok (.iadd, 1) := by decide +kernel
theorem dX5_surplus_57 : decode cX5_surplus 57 = .ok (.istore 4, 2) := by decide +kernel
theorem dX5_surplus_59 : decode cX5_surplus 59 = .ok (.iinc 5 1, 3) := by decide +kernel
theorem dX5_surplus_62 : decode cX5_surplus 62 = .ok (.goto (-43), 3) := by decide +kernel
theorem dX5_surplus_65 : decode cX5_surplus 65 = .ok (.aload_n 0, 1) := by decide +kernel
theorem dX5_surplus_66 : decode cX5_surplus 66 = .ok (.iload 4, 2) := by decide +kernel
theorem dX5_surplus_68 : decode cX5_surplus 68 = .ok (.invokevirtual 65, 3) := by decide +kernel
theorem dX5_surplus_71 : decode cX5_surplus 71 = .ok (.ireturn, 1) := by decide +kernel
theorem dX5_place_0 : decode cX5_place 0 = .ok (.aload_n 0, 1) := by decide +kernel
theorem dX5_place_1 : decode cX5_place 1 = .ok (.iload_n 1, 1) := by decide +kernel
theorem dX5_place_2 : decode cX5_place 2 = .ok (.invokevirtual 53, 3) := by decide +kernel
theorem dX5_place_5 : decode cX5_place 5 = .ok (.astore_n 3, 1) := by decide +kernel
theorem dX5_place_6 : decode cX5_place 6 = .ok (.aload_n 0, 1) := by decide +kernel
theorem dX5_place_7 : decode cX5_place 7 = .ok (.iload_n 2, 1) := by decide +kernel
theorem dX5_place_8 : decode cX5_place 8 = .ok (.invokevirtual 72, 3) := by decide +kernel
theorem dX5_place_11 : decode cX5_place 11 = .ok (.astore 4, 2) := by decide +kernel
theorem dX5_place_13 : decode cX5_place 13 = .ok (.aload 4, 2) := by decide +kernel
theorem dX5_place_15 : decode cX5_place 15 = .ok (.invokevirtual 76, 3) := by decide +kernel
theorem dX5_place_18 : decode cX5_place 18 = .ok (.istore 5, 2) := by decide +kernel
theorem dX5_place_20 : decode cX5_place 20 = .ok (.iload 5, 2) := by decide +kernel
theorem dX5_place_22 : decode cX5_place 22 = .ok (.istore 6, 2) := by decide +kernel
theorem dX5_place_24 : decode cX5_place 24 = .ok (.iconst 0, 1) := by decide +kernel
theorem dX5_place_25 : decode cX5_place 25 = .ok (.istore 7, 2) := by decide +kernel
theorem dX5_place_27 : decode cX5_place 27 = .ok (.bipush 20, 2) := by decide +kernel
theorem dX5_place_29 : decode cX5_place 29 = .ok (.istore 8, 2) := by decide +kernel
theorem dX5_place_31 : decode cX5_place 31 = .ok (.iload 8, 2) := by decide +kernel
theorem dX5_place_33 : decode cX5_place 33 = .ok (.iconst 1, 1) := by decide +kernel
theorem dX5_place_34 : decode cX5_place 34 = .ok (.if_icmp .lt 76, 3) := by decide +kernel
theorem dX5_place_37 : decode cX5_place 37 = .ok (.aload 4, 2) := by decide +kernel
theorem dX5_place_39 : decode cX5_place 39 = .ok (.iload 8, 2) := by decide +kernel
theorem dX5_place_41 : decode cX5_place 41 = .ok (.invokevirtual 80, 3) := by decide +kernel
theorem dX5_place_44 : decode cX5_place 44 = .ok (.istore 9, 2) := by decide +kernel
theorem dX5_place_46 : decode cX5_place 46 = .ok (.iload 9, 2) := by decide +kernel
theorem dX5_place_48 : decode cX5_place 48 = .ok (.ifCond .le 56, 3) := by decide +kernel
theorem dX5_place_51 : decode cX5_place 51 = .ok (.iload 7, 2) := by decide +kernel
theorem dX5_place_53 : decode cX5_place 53 = .ok (.aload_n 3, 1) := by decide +kernel
theorem dX5_place_54 : decode cX5_place 54 = .ok (.iconst 0, 1) := by decide +kernel
theorem dX5_place_55 : decode cX5_place 55 = .ok (.iload 5, 2) := by decide +kernel
theorem dX5_place_57 : decode cX5_place 57 = .ok (.iload 6, 2) := by decide +kernel
theorem dX5_place_59 : decode cX5_place 59 = .ok (.aload_n 0, 1) := by decide +kernel
theorem dX5_place_60 : decode cX5_place 60 = .ok (.getfield 35, 3) := by decide +kernel
theorem dX5_place_63 : decode cX5_place 63 = .ok (.invokevirtual 61, 3) := by decide +kernel
theorem dX5_place_66 : decode cX5_place 66 = .ok (.iadd, 1) := by decide +kernel
theorem dX5_place_67 : decode cX5_place 67 = .ok (.istore 7, 2) := by decide +kernel
theorem dX5_place_69 : decode cX5_place 69 = .ok (.iload 7, 2) := by decide +kernel
theorem dX5_place_71 : decode cX5_place 71 = .ok (.aload_n 3, 1) := by decide +kernel
theorem dX5_place_72 : decode cX5_place 72 = .ok (.iconst 0, 1) := by decide +kernel
theorem dX5_place_73 : decode cX5_place 73 = .ok (.iload 5, 2) := by decide +kernel
theorem dX5_place_75 : decode cX5_place 75 = .ok (.iload 8, 2) := by decide +kernel
theorem dX5_place_77 : decode cX5_place 77 = .ok (.aload_n 0, 1) := by decide +kernel
theorem dX5_place_78 : decode cX5_place 78 = .ok (.getfield 35, 3) := by decide +kernel
theorem dX5_place_81 : decode cX5_place 81 = .ok (.invokevirtual 61, 3) := by decide +kernel
theorem dX5_place_84 : decode cX5_place 84 = .ok (.isub, 1) := by decide +kernel
theorem dX5_place_85 : decode cX5_place 85 = .ok (.istore 7, 2) := by decide +kernel
theorem dX5_place_87 : decode cX5_place 87 = .ok (.iload 5, 2) := by decide +kernel
theorem dX5_place_89 : decode cX5_place 89 = .ok (.iload 8, 2) := by decide +kernel
theorem dX5_place_91 : decode cX5_place 91 = .ok (.isub, 1) := by decide +kernel
theorem dX5_place_92 : decode cX5_place 92 = .ok (.istore 5, 2) := by decide +kernel
theorem dX5_place_94 : decode cX5_place 94 = .ok (.iload 8, 2) := by decide +kernel
theorem dX5_place_96 : decode cX5_place 96 = .ok (.istore 6, 2) := by decide +kernel
theorem dX5_place_98 : decode cX5_place 98 = .ok (.iinc 9 (-1), 3) := by decide +kernel
theorem dX5_place_101 : decode cX5_place 101 = .ok (.goto (-55), 3) := by decide +kernel
theorem dX5_place_104 : decode cX5_place 104 = .ok (.iinc 8 (-1), 3) := by decide +kernel
theorem dX5_place_107 : decode cX5_place 107 = .ok (.goto (-76), 3) := by decide +kernel
theorem dX5_place_110 : decode cX5_place 110 = .ok (.aload_n 0, 1) := by decide +kernel
theorem dX5_place_111 : decode cX5_place 111 = .ok (.iload 7, 2) := by decide +kernel
theorem dX5_place_113 : decode cX5_place 113 = .ok (.invokevirtual 65, 3) := by decide +kernel
theorem dX5_place_116 : decode cX5_place 116 = .ok (.ireturn, 1) := by decide +kernel
theorem dX5_learn_0 : decode cX5_learn 0 = .ok (.aload_n 0, 1) := by decide +kernel
theorem dX5_learn_1 : decode cX5_learn 1 = .ok (.iload_n 1, 1) := by decide +kernel
theorem dX5_learn_2 : decode cX5_learn 2 = .ok (.invokevirtual 53, 3) := by decide +kernel
theorem dX5_learn_5 : decode cX5_learn 5 = .ok (.astore 5, 2) := by decide +kernel
theorem dX5_learn_7 : decode cX5_learn 7 = .ok (.iload_n 2, 1) := by decide +kernel
theorem dX5_learn_8 : decode cX5_learn 8 = .ok (.iload_n 3, 1) := by decide +kernel
theorem dX5_learn_9 : decode cX5_learn 9 = .ok (.iload 4, 2) := by decide +kernel
theorem dX5_learn_11 : decode cX5_learn 11 = .ok (.invokestatic 57, 3) := by decide +kernel
theorem dX5_learn_14 : decode cX5_learn 14 = .ok (.iload_n 3, 1) := by decide +kernel
theorem dX5_learn_15 : decode cX5_learn 15 = .ok (.iload 4, 2) := by decide +kernel
theorem dX5_learn_17 : decode cX5_learn 17 = .ok (.invokestatic 83, 3) := by decide +kernel
theorem dX5_learn_20 : decode cX5_learn 20 = .ok (.ifCond .eq 8, 3) := by decide +kernel
theorem dX5_learn_23 : decode cX5_learn 23 = .ok (.aload_n 0, 1) := by decide +kernel
theorem dX5_learn_24 : decode cX5_learn 24 = .ok (.invokevirtual 87, 3) := by decide +kernel
theorem dX5_learn_27 : decode cX5_learn 27 = .ok (.ireturn, 1) := by decide +kernel
theorem dX5_learn_28 : decode cX5_learn 28 = .ok (.aload 5, 2) := by decide +kernel
theorem dX5_learn_30 : decode cX5_learn 30 = .ok (.iload_n 2, 1) := by decide +kernel
theorem dX5_learn_31 : decode cX5_learn 31 = .ok (.iload_n 3, 1) := by decide +kernel
theorem dX5_learn_32 : decode cX5_learn 32 = .ok (.iload 4, 2) := by decide +kernel
theorem dX5_learn_34 : decode cX5_learn 34 = .ok (.invokevirtual 90, 3) := by decide +kernel
theorem dX5_learn_37 : decode cX5_learn 37 = .ok (.ifCond .eq 9, 3) := by decide +kernel
theorem dX5_learn_40 : decode cX5_learn 40 = .ok (.aload_n 0, 1) := by decide +kernel
theorem dX5_learn_41 : decode cX5_learn 41 = .ok (.iconst 0, 1) := by decide +kernel
theorem dX5_learn_42 : decode cX5_learn 42 = .ok (.invokevirtual 65, 3) := by decide +kernel
theorem dX5_learn_45 : decode cX5_learn 45 = .ok (.ireturn, 1) := by decide +kernel
theorem dX5_learn_46 : decode cX5_learn 46 = .ok (.aload 5, 2) := by decide +kernel
theorem dX5_learn_48 : decode cX5_learn 48 = .ok (.iload_n 2, 1) := by decide +kernel
theorem dX5_learn_49 : decode cX5_learn 49 = .ok (.iload_n 3, 1) := by decide +kernel
theorem dX5_learn_50 : decode cX5_learn 50 = .ok (.iload 4, 2) := by decide +kernel
theorem dX5_learn_52 : decode cX5_learn 52 = .ok (.aload_n 0, 1) := by decide +kernel
theorem dX5_learn_53 : decode cX5_learn 53 = .ok (.getfield 42, 3) := by decide +kernel
theorem dX5_learn_56 : decode cX5_learn 56 = .ok (.iload_n 2, 1) := by decide +kernel
theorem dX5_learn_57 : decode cX5_learn 57 = .ok (.iload_n 3, 1) := by decide +kernel
theorem dX5_learn_58 : decode cX5_learn 58 = .ok (.iload 4, 2) := by decide +kernel
theorem dX5_learn_60 : decode cX5_learn 60 = .ok (.invokevirtual 94, 3) := by decide +kernel
theorem dX5_learn_63 : decode cX5_learn 63 = .ok (.invokevirtual 98, 3) := by decide +kernel
theorem dX5_learn_66 : decode cX5_learn 66 = .ok (.aload_n 0, 1) := by decide +kernel
theorem dX5_learn_67 : decode cX5_learn 67 = .ok (.iconst 1, 1) := by decide +kernel
theorem dX5_learn_68 : decode cX5_learn 68 = .ok (.invokevirtual 65, 3) := by decide +kernel
theorem dX5_learn_71 : decode cX5_learn 71 = .ok (.ireturn, 1) := by decide +kernel
theorem dX5_relearn_0 : decode cX5_relearn 0 = .ok (.aload_n 0, 1) := by decide +kernel
theorem dX5_relearn_1 : decode cX5_relearn 1 = .ok (.iload_n 1, 1) := by decide +kernel
theorem dX5_relearn_2 : decode cX5_relearn 2 = .ok (.invokevirtual 53, 3) := by decide +kernel
theorem dX5_relearn_5 : decode cX5_relearn 5 = .ok (.astore 5, 2) := by decide +kernel
theorem dX5_relearn_7 : decode cX5_relearn 7 = .ok (.iload_n 2, 1) := by decide +kernel
theorem dX5_relearn_8 : decode cX5_relearn 8 = .ok (.iload_n 3, 1) := by decide +kernel
theorem dX5_relearn_9 : decode cX5_relearn 9 = .ok (.iload 4, 2) := by decide +kernel
theorem dX5_relearn_11 : decode cX5_relearn 11 = .ok (.invokestatic 57, 3) := by decide +kernel
theorem dX5_relearn_14 : decode cX5_relearn 14 = .ok (.aload 5, 2) := by decide +kernel
theorem dX5_relearn_16 : decode cX5_relearn 16 = .ok (.iload_n 2, 1) := by decide +kernel
theorem dX5_relearn_17 : decode cX5_relearn 17 = .ok (.iload_n 3, 1) := by decide +kernel
theorem dX5_relearn_18 : decode cX5_relearn 18 = .ok (.iload 4, 2) := by decide +kernel
theorem dX5_relearn_20 : decode cX5_relearn 20 = .ok (.invokevirtual 90, 3) := by decide +kernel
theorem dX5_relearn_23 : decode cX5_relearn 23 = .ok (.ifCond .ne 8, 3) := by decide +kernel
theorem dX5_relearn_26 : decode cX5_relearn 26 = .ok (.aload_n 0, 1) := by decide +kernel
theorem dX5_relearn_27 : decode cX5_relearn 27 = .ok (.invokevirtual 87, 3) := by decide +kernel
theorem dX5_relearn_30 : decode cX5_relearn 30 = .ok (.ireturn, 1) := by decide +kernel
theorem dX5_relearn_31 : decode cX5_relearn 31 = .ok (.aload_n 0, 1) := by decide +kernel
theorem dX5_relearn_32 : decode cX5_relearn 32 = .ok (.iload_n 2, 1) := by decide +kernel
theorem dX5_relearn_33 : decode cX5_relearn 33 = .ok (.iload_n 3, 1) := by decide +kernel
theorem dX5_relearn_34 : decode cX5_relearn 34 = .ok (.iload 4, 2) := by decide +kernel
theorem dX5_relearn_36 : decode cX5_relearn 36 = .ok (.invokevirtual 102, 3) := by decide +kernel
theorem dX5_relearn_39 : decode cX5_relearn 39 = .ok (.istore 6, 2) := by decide +kernel
theorem dX5_relearn_41 : decode cX5_relearn 41 = .ok (.aload 5, 2) := by decide +kernel
theorem dX5_relearn_43 : decode cX5_relearn 43 = .ok (.iload_n 2, 1) := by decide +kernel
theorem dX5_relearn_44 : decode cX5_relearn 44 = .ok (.iload_n 3, 1) := by decide +kernel
theorem dX5_relearn_45 : decode cX5_relearn 45 = .ok (.iload 4, 2) := by decide +kernel
theorem dX5_relearn_47 : decode cX5_relearn 47 = .ok (.iload 6, 2) := by decide +kernel
theorem dX5_relearn_49 : decode cX5_relearn 49 = .ok (.invokevirtual 98, 3) := by decide +kernel
theorem dX5_relearn_52 : decode cX5_relearn 52 = .ok (.aload_n 0, 1) := by decide +kernel
theorem dX5_relearn_53 : decode cX5_relearn 53 = .ok (.iload 6, 2) := by decide +kernel
theorem dX5_relearn_55 : decode cX5_relearn 55 = .ok (.invokevirtual 65, 3) := by decide +kernel
theorem dX5_relearn_58 : decode cX5_relearn 58 = .ok (.ireturn, 1) := by decide +kernel
theorem dX5_forget_0 : decode cX5_forget 0 = .ok (.aload_n 0, 1) := by decide +kernel
theorem dX5_forget_1 : decode cX5_forget 1 = .ok (.iload_n 1, 1) := by decide +kernel
theorem dX5_forget_2 : decode cX5_forget 2 = .ok (.invokevirtual 53, 3) := by decide +kernel
theorem dX5_forget_5 : decode cX5_forget 5 = .ok (.astore 5, 2) := by decide +kernel
theorem dX5_forget_7 : decode cX5_forget 7 = .ok (.iload_n 2, 1) := by decide +kernel
theorem dX5_forget_8 : decode cX5_forget 8 = .ok (.iload_n 3, 1) := by decide +kernel
theorem dX5_forget_9 : decode cX5_forget 9 = .ok (.iload 4, 2) := by decide +kernel
theorem dX5_forget_11 : decode cX5_forget 11 = .ok (.invokestatic 57, 3) := by decide +kernel
theorem dX5_forget_14 : decode cX5_forget 14 = .ok (.aload 5, 2) := by decide +kernel
theorem dX5_forget_16 : decode cX5_forget 16 = .ok (.iload_n 2, 1) := by decide +kernel
theorem dX5_forget_17 : decode cX5_forget 17 = .ok (.iload_n 3, 1) := by decide +kernel
theorem dX5_forget_18 : decode cX5_forget 18 = .ok (.iload 4, 2) := by decide +kernel
theorem dX5_forget_20 : decode cX5_forget 20 = .ok (.invokevirtual 90, 3) := by decide +kernel
theorem dX5_forget_23 : decode cX5_forget 23 = .ok (.ifCond .ne 8, 3) := by decide +kernel
theorem dX5_forget_26 : decode cX5_forget 26 = .ok (.aload_n 0, 1) := by decide +kernel
theorem dX5_forget_27 : decode cX5_forget 27 = .ok (.invokevirtual 87, 3) := by decide +kernel
theorem dX5_forget_30 : decode cX5_forget 30 = .ok (.ireturn, 1) := by decide +kernel
theorem dX5_forget_31 : decode cX5_forget 31 = .ok (.aload 5, 2) := by decide +kernel
theorem dX5_forget_33 : decode cX5_forget 33 = .ok (.iload_n 2, 1) := by decide +kernel
theorem dX5_forget_34 : decode cX5_forget 34 = .ok (.iload_n 3, 1) := by decide +kernel
theorem dX5_forget_35 : decode cX5_forget 35 = .ok (.iload 4, 2) := by decide +kernel
theorem dX5_forget_37 : decode cX5_forget 37 = .ok (.invokevirtual 105, 3) := by decide +kernel
theorem dX5_forget_40 : decode cX5_forget 40 = .ok (.istore 6, 2) := by decide +kernel
theorem dX5_forget_42 : decode cX5_forget 42 = .ok (.aload 5, 2) := by decide +kernel
theorem dX5_forget_44 : decode cX5_forget 44 = .ok (.iload_n 2, 1) := by decide +kernel
theorem dX5_forget_45 : decode cX5_forget 45 = .ok (.iload_n 3, 1) := by decide +kernel
theorem dX5_forget_46 : decode cX5_forget 46 = .ok (.iload 4, 2) := by decide +kernel
theorem dX5_forget_48 : decode cX5_forget 48 = .ok (.invokevirtual 108, 3) := by decide +kernel
theorem dX5_forget_51 : decode cX5_forget 51 = .ok (.aload_n 0, 1) := by decide +kernel
theorem dX5_forget_52 : decode cX5_forget 52 = .ok (.iload 6, 2) := by decide +kernel
theorem dX5_forget_54 : decode cX5_forget 54 = .ok (.invokevirtual 65, 3) := by decide +kernel
theorem dX5_forget_57 : decode cX5_forget 57 = .ok (.ireturn, 1) := by decide +kernel
theorem dX5_forgetIf_0 : decode cX5_forgetIf 0 = .ok (.aload_n 0, 1) := by decide +kernel
theorem dX5_forgetIf_1 : decode cX5_forgetIf 1 = .ok (.iload_n 1, 1) := by decide +kernel
theorem dX5_forgetIf_2 : decode cX5_forgetIf 2 = .ok (.invokevirtual 53, 3) := by decide +kernel
theorem dX5_forgetIf_5 : decode cX5_forgetIf 5 = .ok (.astore 6, 2) := by decide +kernel
theorem dX5_forgetIf_7 : decode cX5_forgetIf 7 = .ok (.iload_n 2, 1) := by decide +kernel
theorem dX5_forgetIf_8 : decode cX5_forgetIf 8 = .ok (.iload_n 3, 1) := by decide +kernel
theorem dX5_forgetIf_9 : decode cX5_forgetIf 9 = .ok (.iload 4, 2) := by decide +kernel
theorem dX5_forgetIf_11 : decode cX5_forgetIf 11 = .ok (.invokestatic 57, 3) := by decide +kernel
theorem dX5_forgetIf_14 : decode cX5_forgetIf 14 = .ok (.aload 6, 2) := by decide +kernel
theorem dX5_forgetIf_16 : decode cX5_forgetIf 16 = .ok (.iload_n 2, 1) := by decide +kernel
theorem dX5_forgetIf_17 : decode cX5_forgetIf 17 = .ok (.iload_n 3, 1) := by decide +kernel
theorem dX5_forgetIf_18 : decode cX5_forgetIf 18 = .ok (.iload 4, 2) := by decide +kernel
theorem dX5_forgetIf_20 : decode cX5_forgetIf 20 = .ok (.iload 5, 2) := by decide +kernel
theorem dX5_forgetIf_22 : decode cX5_forgetIf 22 = .ok (.invokevirtual 111, 3) := by decide +kernel
theorem dX5_forgetIf_25 : decode cX5_forgetIf 25 = .ok (.ifCond .ne 9, 3) := by decide +kernel
theorem dX5_forgetIf_28 : decode cX5_forgetIf 28 = .ok (.aload_n 0, 1) := by decide +kernel
theorem dX5_forgetIf_29 : decode cX5_forgetIf 29 = .ok (.iconst 0, 1) := by decide +kernel
theorem dX5_forgetIf_30 : decode cX5_forgetIf 30 = .ok (.invokevirtual 65, 3) := by decide +kernel
theorem dX5_forgetIf_33 : decode cX5_forgetIf 33 = .ok (.ireturn, 1) := by decide +kernel
theorem dX5_forgetIf_34 : decode cX5_forgetIf 34 = .ok (.aload 6, 2) := by decide +kernel
theorem dX5_forgetIf_36 : decode cX5_forgetIf 36 = .ok (.iload_n 2, 1) := by decide +kernel
theorem dX5_forgetIf_37 : decode cX5_forgetIf 37 = .ok (.iload_n 3, 1) := by decide +kernel
theorem dX5_forgetIf_38 : decode cX5_forgetIf 38 = .ok (.iload 4, 2) := by decide +kernel
theorem dX5_forgetIf_40 : decode cX5_forgetIf 40 = .ok (.invokevirtual 108, 3) := by decide +kernel
theorem dX5_forgetIf_43 : decode cX5_forgetIf 43 = .ok (.aload_n 0, 1) := by decide +kernel
theorem dX5_forgetIf_44 : decode cX5_forgetIf 44 = .ok (.iconst 1, 1) := by decide +kernel
theorem dX5_forgetIf_45 : decode cX5_forgetIf 45 = .ok (.invokevirtual 65, 3) := by decide +kernel
theorem dX5_forgetIf_48 : decode cX5_forgetIf 48 = .ok (.ireturn, 1) := by decide +kernel
theorem dX5_forgetAll_0 : decode cX5_forgetAll 0 = .ok (.aload_n 0, 1) := by decide +kernel
theorem dX5_forgetAll_1 : decode cX5_forgetAll 1 = .ok (.iload_n 1, 1) := by decide +kernel
theorem dX5_forgetAll_2 : decode cX5_forgetAll 2 = .ok (.invokevirtual 53, 3) := by decide +kernel
theorem dX5_forgetAll_5 : decode cX5_forgetAll 5 = .ok (.astore 4, 2) := by decide +kernel
theorem dX5_forgetAll_7 : decode cX5_forgetAll 7 = .ok (.iload_n 2, 1) := by decide +kernel
theorem dX5_forgetAll_8 : decode cX5_forgetAll 8 = .ok (.iconst 0, 1) := by decide +kernel
theorem dX5_forgetAll_9 : decode cX5_forgetAll 9 = .ok (.iconst 3, 1) := by decide +kernel
theorem dX5_forgetAll_10 : decode cX5_forgetAll 10 = .ok (.invokestatic 69, 3) := by decide +kernel
theorem dX5_forgetAll_13 : decode cX5_forgetAll 13 = .ok (.aload_n 0, 1) := by decide +kernel
theorem dX5_forgetAll_14 : decode cX5_forgetAll 14 = .ok (.aload 4, 2) := by decide +kernel
theorem dX5_forgetAll_16 : decode cX5_forgetAll 16 = .ok (.iload_n 2, 1) := by decide +kernel
theorem dX5_forgetAll_17 : decode cX5_forgetAll 17 = .ok (.iload_n 3, 1) := by decide +kernel
theorem dX5_forgetAll_18 : decode cX5_forgetAll 18 = .ok (.invokevirtual 115, 3) := by decide +kernel
theorem dX5_forgetAll_21 : decode cX5_forgetAll 21 = .ok (.invokevirtual 65, 3) := by decide +kernel
theorem dX5_forgetAll_24 : decode cX5_forgetAll 24 = .ok (.ireturn, 1) := by decide +kernel
theorem dX5_clear_0 : decode cX5_clear 0 = .ok (.aload_n 0, 1) := by decide +kernel
theorem dX5_clear_1 : decode cX5_clear 1 = .ok (.aload_n 0, 1) := by decide +kernel
theorem dX5_clear_2 : decode cX5_clear 2 = .ok (.iload_n 1, 1) := by decide +kernel
theorem dX5_clear_3 : decode cX5_clear 3 = .ok (.invokevirtual 53, 3) := by decide +kernel
theorem dX5_clear_6 : decode cX5_clear 6 = .ok (.invokevirtual 119, 3) := by decide +kernel
theorem dX5_clear_9 : decode cX5_clear 9 = .ok (.invokevirtual 65, 3) := by decide +kernel
theorem dX5_clear_12 : decode cX5_clear 12 = .ok (.ireturn, 1) := by decide +kernel
theorem dX5_copy_0 : decode cX5_copy 0 = .ok (.aload_n 0, 1) := by decide +kernel
theorem dX5_copy_1 : decode cX5_copy 1 = .ok (.iload_n 1, 1) := by decide +kernel
theorem dX5_copy_2 : decode cX5_copy 2 = .ok (.invokevirtual 53, 3) := by decide +kernel
theorem dX5_copy_5 : decode cX5_copy 5 = .ok (.astore_n 3, 1) := by decide +kernel
theorem dX5_copy_6 : decode cX5_copy 6 = .ok (.aload_n 0, 1) := by decide +kernel
theorem dX5_copy_7 : decode cX5_copy 7 = .ok (.iload_n 2, 1) := by decide +kernel
theorem dX5_copy_8 : decode cX5_copy 8 = .ok (.invokevirtual 53, 3) := by decide +kernel
theorem dX5_copy_11 : decode cX5_copy 11 = .ok (.astore 4, 2) := by decide +kernel
theorem dX5_copy_13 : decode cX5_copy 13 = .ok (.aload 4, 2) := by decide +kernel
theorem dX5_copy_15 : decode cX5_copy 15 = .ok (.aload_n 3, 1) := by decide +kernel
theorem dX5_copy_16 : decode cX5_copy 16 = .ok (.invokevirtual 122, 3) := by decide +kernel
theorem dX5_copy_19 : decode cX5_copy 19 = .ok (.aload_n 0, 1) := by decide +kernel
theorem dX5_copy_20 : decode cX5_copy 20 = .ok (.aload 4, 2) := by decide +kernel
theorem dX5_copy_22 : decode cX5_copy 22 = .ok (.invokevirtual 126, 3) := by decide +kernel
theorem dX5_copy_25 : decode cX5_copy 25 = .ok (.invokevirtual 65, 3) := by decide +kernel
theorem dX5_copy_28 : decode cX5_copy 28 = .ok (.ireturn, 1) := by decide +kernel
theorem dX5_pour_0 : decode cX5_pour 0 = .ok (.aload_n 0, 1) := by decide +kernel
theorem dX5_pour_1 : decode cX5_pour 1 = .ok (.iload_n 1, 1) := by decide +kernel
theorem dX5_pour_2 : decode cX5_pour 2 = .ok (.invokevirtual 53, 3) := by decide +kernel
theorem dX5_pour_5 : decode cX5_pour 5 = .ok (.astore_n 3, 1) := by decide +kernel
theorem dX5_pour_6 : decode cX5_pour 6 = .ok (.aload_n 0, 1) := by decide +kernel
theorem dX5_pour_7 : decode cX5_pour 7 = .ok (.iload_n 2, 1) := by decide +kernel
theorem dX5_pour_8 : decode cX5_pour 8 = .ok (.invokevirtual 53, 3) := by decide +kernel
theorem dX5_pour_11 : decode cX5_pour 11 = .ok (.astore 4, 2) := by decide +kernel
theorem dX5_pour_13 : decode cX5_pour 13 = .ok (.iload_n 1, 1) := by decide +kernel
theorem dX5_pour_14 : decode cX5_pour 14 = .ok (.iload_n 2, 1) := by decide +kernel
theorem dX5_pour_15 : decode cX5_pour 15 = .ok (.if_icmp .ne 8, 3) := by decide +kernel
theorem dX5_pour_18 : decode cX5_pour 18 = .ok (.aload_n 0, 1) := by decide +kernel
theorem dX5_pour_19 : decode cX5_pour 19 = .ok (.invokevirtual 87, 3) := by decide +kernel
theorem dX5_pour_22 : decode cX5_pour 22 = .ok (.ireturn, 1) := by decide +kernel
theorem dX5_pour_23 : decode cX5_pour 23 = .ok (.aload_n 0, 1) := by decide +kernel
theorem dX5_pour_24 : decode cX5_pour 24 = .ok (.aload 4, 2) := by decide +kernel
theorem dX5_pour_26 : decode cX5_pour 26 = .ok (.aload_n 3, 1) := by decide +kernel
theorem dX5_pour_27 : decode cX5_pour 27 = .ok (.invokevirtual 129, 3) := by decide +kernel
theorem dX5_pour_30 : decode cX5_pour 30 = .ok (.invokevirtual 65, 3) := by decide +kernel
theorem dX5_pour_33 : decode cX5_pour 33 = .ok (.ireturn, 1) := by decide +kernel
theorem dX5_isKept_0 : decode cX5_isKept 0 = .ok (.aload_n 0, 1) := by decide +kernel
theorem dX5_isKept_1 : decode cX5_isKept 1 = .ok (.iload_n 1, 1) := by decide +kernel
theorem dX5_isKept_2 : decode cX5_isKept 2 = .ok (.invokevirtual 53, 3) := by decide +kernel
theorem dX5_isKept_5 : decode cX5_isKept 5 = .ok (.astore 6, 2) := by decide +kernel
theorem dX5_isKept_7 : decode cX5_isKept 7 = .ok (.iload_n 2, 1) := by decide +kernel
theorem dX5_isKept_8 : decode cX5_isKept 8 = .ok (.iload_n 3, 1) := by decide +kernel
theorem dX5_isKept_9 : decode cX5_isKept 9 = .ok (.iload 4, 2) := by decide +kernel
theorem dX5_isKept_11 : decode cX5_isKept 11 = .ok (.invokestatic 57, 3) := by decide +kernel
theorem dX5_isKept_14 : decode cX5_isKept 14 = .ok (.iload 5, 2) := by decide +kernel
theorem dX5_isKept_16 : decode cX5_isKept 16 = .ok (.iconst 0, 1) := by decide +kernel
theorem dX5_isKept_17 : decode cX5_isKept 17 = .ok (.iconst 2, 1) := by decide +kernel
theorem dX5_isKept_18 : decode cX5_isKept 18 = .ok (.invokestatic 69, 3) := by decide +kernel
theorem dX5_isKept_21 : decode cX5_isKept 21 = .ok (.aload 6, 2) := by decide +kernel
theorem dX5_isKept_23 : decode cX5_isKept 23 = .ok (.iload_n 2, 1) := by decide +kernel
theorem dX5_isKept_24 : decode cX5_isKept 24 = .ok (.iload_n 3, 1) := by decide +kernel
theorem dX5_isKept_25 : decode cX5_isKept 25 = .ok (.iload 4, 2) := by decide +kernel
theorem dX5_isKept_27 : decode cX5_isKept 27 = .ok (.invokevirtual 90, 3) := by decide +kernel
theorem dX5_isKept_30 : decode cX5_isKept 30 = .ok (.ireturn, 1) := by decide +kernel
theorem dX5_worthOr_0 : decode cX5_worthOr 0 = .ok (.aload_n 0, 1) := by decide +kernel
theorem dX5_worthOr_1 : decode cX5_worthOr 1 = .ok (.iload_n 1, 1) := by decide +kernel
theorem dX5_worthOr_2 : decode cX5_worthOr 2 = .ok (.invokevirtual 53, 3) := by decide +kernel
theorem dX5_worthOr_5 : decode cX5_worthOr 5 = .ok (.astore 6, 2) := by decide +kernel
theorem dX5_worthOr_7 : decode cX5_worthOr 7 = .ok (.iload_n 2, 1) := by decide +kernel
theorem dX5_worthOr_8 : decode cX5_worthOr 8 = .ok (.iload_n 3, 1) := by decide +kernel
theorem dX5_worthOr_9 : decode cX5_worthOr 9 = .ok (.iload 4, 2) := by decide +kernel
theorem dX5_worthOr_11 : decode cX5_worthOr 11 = .ok (.invokestatic 57, 3) := by decide +kernel
theorem dX5_worthOr_14 : decode cX5_worthOr 14 = .ok (.aload 6, 2) := by decide +kernel
theorem dX5_worthOr_16 : decode cX5_worthOr 16 = .ok (.iload_n 2, 1) := by decide +kernel
theorem dX5_worthOr_17 : decode cX5_worthOr 17 = .ok (.iload_n 3, 1) := by decide +kernel
theorem dX5_worthOr_18 : decode cX5_worthOr 18 = .ok (.iload 4, 2) := by decide +kernel
theorem dX5_worthOr_20 : decode cX5_worthOr 20 = .ok (.invokevirtual 90, 3) := by decide +kernel
theorem dX5_worthOr_23 : decode cX5_worthOr 23 = .ok (.ifCond .ne 6, 3) := by decide +kernel
theorem dX5_worthOr_26 : decode cX5_worthOr 26 = .ok (.iload 5, 2) := by decide +kernel
theorem dX5_worthOr_28 : decode cX5_worthOr 28 = .ok (.ireturn, 1) := by decide +kernel
theorem dX5_worthOr_29 : decode cX5_worthOr 29 = .ok (.aload 6, 2) := by decide +kernel
theorem dX5_worthOr_31 : decode cX5_worthOr 31 = .ok (.iload_n 2, 1) := by decide +kernel
theorem dX5_worthOr_32 : decode cX5_worthOr 32 = .ok (.iload_n 3, 1) := by decide +kernel
theorem dX5_worthOr_33 : decode cX5_worthOr 33 = .ok (.iload 4, 2) := by decide +kernel
theorem dX5_worthOr_35 : decode cX5_worthOr 35 = .ok (.invokevirtual 105, 3) := by decide +kernel
theorem dX5_worthOr_38 : decode cX5_worthOr 38 = .ok (.ireturn, 1) := by decide +kernel
theorem dX5_confirm_0 : decode cX5_confirm 0 = .ok (.aload_n 0, 1) := by decide +kernel
theorem dX5_confirm_1 : decode cX5_confirm 1 = .ok (.iload_n 1, 1) := by decide +kernel
theorem dX5_confirm_2 : decode cX5_confirm 2 = .ok (.invokevirtual 53, 3) := by decide +kernel
theorem dX5_confirm_5 : decode cX5_confirm 5 = .ok (.astore 6, 2) := by decide +kernel
theorem dX5_confirm_7 : decode cX5_confirm 7 = .ok (.iload_n 2, 1) := by decide +kernel
theorem dX5_confirm_8 : decode cX5_confirm 8 = .ok (.iload_n 3, 1) := by decide +kernel
theorem dX5_confirm_9 : decode cX5_confirm 9 = .ok (.iload 4, 2) := by decide +kernel
theorem dX5_confirm_11 : decode cX5_confirm 11 = .ok (.invokestatic 57, 3) := by decide +kernel
theorem dX5_confirm_14 : decode cX5_confirm 14 = .ok (.aload 6, 2) := by decide +kernel
theorem dX5_confirm_16 : decode cX5_confirm 16 = .ok (.iload_n 2, 1) := by decide +kernel
theorem dX5_confirm_17 : decode cX5_confirm 17 = .ok (.iload_n 3, 1) := by decide +kernel
theorem dX5_confirm_18 : decode cX5_confirm 18 = .ok (.iload 4, 2) := by decide +kernel
theorem dX5_confirm_20 : decode cX5_confirm 20 = .ok (.iload 5, 2) := by decide +kernel
theorem dX5_confirm_22 : decode cX5_confirm 22 = .ok (.invokevirtual 111, 3) := by decide +kernel
theorem dX5_confirm_25 : decode cX5_confirm 25 = .ok (.ireturn, 1) := by decide +kernel
theorem dX5_about_0 : decode cX5_about 0 = .ok (.aload_n 0, 1) := by decide +kernel
theorem dX5_about_1 : decode cX5_about 1 = .ok (.iload_n 1, 1) := by decide +kernel
theorem dX5_about_2 : decode cX5_about 2 = .ok (.invokevirtual 53, 3) := by decide +kernel
theorem dX5_about_5 : decode cX5_about 5 = .ok (.astore_n 3, 1) := by decide +kernel
theorem dX5_about_6 : decode cX5_about 6 = .ok (.iload_n 2, 1) := by decide +kernel
theorem dX5_about_7 : decode cX5_about 7 = .ok (.iconst 0, 1) := by decide +kernel
theorem dX5_about_8 : decode cX5_about 8 = .ok (.iconst 3, 1) := by decide +kernel
theorem dX5_about_9 : decode cX5_about 9 = .ok (.invokestatic 69, 3) := by decide +kernel
theorem dX5_about_12 : decode cX5_about 12 = .ok (.iload_n 2, 1) := by decide +kernel
theorem dX5_about_13 : decode cX5_about 13 = .ok (.tableswitch 42 0 2 #[27, 32, 37], 27) := by decide +kernel
theorem dX5_about_40 : decode cX5_about 40 = .ok (.aload_n 3, 1) := by decide +kernel
theorem dX5_about_41 : decode cX5_about 41 = .ok (.invokevirtual 126, 3) := by decide +kernel
theorem dX5_about_44 : decode cX5_about 44 = .ok (.ireturn, 1) := by decide +kernel
theorem dX5_about_45 : decode cX5_about 45 = .ok (.aload_n 3, 1) := by decide +kernel
theorem dX5_about_46 : decode cX5_about 46 = .ok (.invokevirtual 133, 3) := by decide +kernel
theorem dX5_about_49 : decode cX5_about 49 = .ok (.ireturn, 1) := by decide +kernel
theorem dX5_about_50 : decode cX5_about 50 = .ok (.aload_n 3, 1) := by decide +kernel
theorem dX5_about_51 : decode cX5_about 51 = .ok (.invokevirtual 136, 3) := by decide +kernel
theorem dX5_about_54 : decode cX5_about 54 = .ok (.ireturn, 1) := by decide +kernel
theorem dX5_about_55 : decode cX5_about 55 = .ok (.aload_n 3, 1) := by decide +kernel
theorem dX5_about_56 : decode cX5_about 56 = .ok (.invokevirtual 126, 3) := by decide +kernel
theorem dX5_about_59 : decode cX5_about 59 = .ok (.ifCond .ne 7, 3) := by decide +kernel
theorem dX5_about_62 : decode cX5_about 62 = .ok (.iconst 1, 1) := by decide +kernel
theorem dX5_about_63 : decode cX5_about 63 = .ok (.goto 4, 3) := by decide +kernel
theorem dX5_about_66 : decode cX5_about 66 = .ok (.iconst 0, 1) := by decide +kernel
theorem dX5_about_67 : decode cX5_about 67 = .ok (.ireturn, 1) := by decide +kernel
theorem dX5_has_0 : decode cX5_has 0 = .ok (.aload_n 0, 1) := by decide +kernel
theorem dX5_has_1 : decode cX5_has 1 = .ok (.iload_n 1, 1) := by decide +kernel
theorem dX5_has_2 : decode cX5_has 2 = .ok (.invokevirtual 53, 3) := by decide +kernel
theorem dX5_has_5 : decode cX5_has 5 = .ok (.iconst 3, 1) := by decide +kernel
theorem dX5_has_6 : decode cX5_has 6 = .ok (.iload_n 2, 1) := by decide +kernel
theorem dX5_has_7 : decode cX5_has 7 = .ok (.invokevirtual 139, 3) := by decide +kernel
theorem dX5_has_10 : decode cX5_has 10 = .ok (.ifCond .le 7, 3) := by decide +kernel
theorem dX5_has_13 : decode cX5_has 13 = .ok (.iconst 1, 1) := by decide +kernel
theorem dX5_has_14 : decode cX5_has 14 = .ok (.goto 4, 3) := by decide +kernel
theorem dX5_has_17 : decode cX5_has 17 = .ok (.iconst 0, 1) := by decide +kernel
theorem dX5_has_18 : decode cX5_has 18 = .ok (.ireturn, 1) := by decide +kernel
theorem dX5_count_0 : decode cX5_count 0 = .ok (.aload_n 0, 1) := by decide +kernel
theorem dX5_count_1 : decode cX5_count 1 = .ok (.iload_n 1, 1) := by decide +kernel
theorem dX5_count_2 : decode cX5_count 2 = .ok (.invokevirtual 53, 3) := by decide +kernel
theorem dX5_count_5 : decode cX5_count 5 = .ok (.astore 4, 2) := by decide +kernel
theorem dX5_count_7 : decode cX5_count 7 = .ok (.iload_n 2, 1) := by decide +kernel
theorem dX5_count_8 : decode cX5_count 8 = .ok (.iconst 0, 1) := by decide +kernel
theorem dX5_count_9 : decode cX5_count 9 = .ok (.iconst 3, 1) := by decide +kernel
theorem dX5_count_10 : decode cX5_count 10 = .ok (.invokestatic 69, 3) := by decide +kernel
theorem dX5_count_13 : decode cX5_count 13 = .ok (.aload 4, 2) := by decide +kernel
theorem dX5_count_15 : decode cX5_count 15 = .ok (.iload_n 2, 1) := by decide +kernel
theorem dX5_count_16 : decode cX5_count 16 = .ok (.iload_n 3, 1) := by decide +kernel
theorem dX5_count_17 : decode cX5_count 17 = .ok (.invokevirtual 139, 3) := by decide +kernel
theorem dX5_count_20 : decode cX5_count 20 = .ok (.ireturn, 1) := by decide +kernel
theorem dX5_isSame_0 : decode cX5_isSame 0 = .ok (.aload_n 0, 1) := by decide +kernel
theorem dX5_isSame_1 : decode cX5_isSame 1 = .ok (.iload_n 1, 1) := by decide +kernel
theorem dX5_isSame_2 : decode cX5_isSame 2 = .ok (.invokevirtual 53, 3) := by decide +kernel
theorem dX5_isSame_5 : decode cX5_isSame 5 = .ok (.astore_n 3, 1) := by decide +kernel
theorem dX5_isSame_6 : decode cX5_isSame 6 = .ok (.aload_n 0, 1) := by decide +kernel
theorem dX5_isSame_7 : decode cX5_isSame 7 = .ok (.iload_n 2, 1) := by decide +kernel
theorem dX5_isSame_8 : decode cX5_isSame 8 = .ok (.invokevirtual 53, 3) := by decide +kernel
theorem dX5_isSame_11 : decode cX5_isSame 11 = .ok (.astore 4, 2) := by decide +kernel
theorem dX5_isSame_13 : decode cX5_isSame 13 = .ok (.aload_n 3, 1) := by decide +kernel
theorem dX5_isSame_14 : decode cX5_isSame 14 = .ok (.aload 4, 2) := by decide +kernel
theorem dX5_isSame_16 : decode cX5_isSame 16 = .ok (.invokevirtual 142, 3) := by decide +kernel
theorem dX5_isSame_19 : decode cX5_isSame 19 = .ok (.ireturn, 1) := by decide +kernel
theorem dX5_walk_0 : decode cX5_walk 0 = .ok (.iload_n 1, 1) := by decide +kernel
theorem dX5_walk_1 : decode cX5_walk 1 = .ok (.iload_n 2, 1) := by decide +kernel
theorem dX5_walk_2 : decode cX5_walk 2 = .ok (.iload_n 3, 1) := by decide +kernel
theorem dX5_walk_3 : decode cX5_walk 3 = .ok (.invokestatic 146, 3) := by decide +kernel
theorem dX5_walk_6 : decode cX5_walk 6 = .ok (.aload_n 0, 1) := by decide +kernel
theorem dX5_walk_7 : decode cX5_walk 7 = .ok (.iload_n 1, 1) := by decide +kernel
theorem dX5_walk_8 : decode cX5_walk 8 = .ok (.iload_n 2, 1) := by decide +kernel
theorem dX5_walk_9 : decode cX5_walk 9 = .ok (.iload_n 3, 1) := by decide +kernel
theorem dX5_walk_10 : decode cX5_walk 10 = .ok (.invokevirtual 102, 3) := by decide +kernel
theorem dX5_walk_13 : decode cX5_walk 13 = .ok (.ireturn, 1) := by decide +kernel
theorem dX5_product_0 : decode cX5_product 0 = .ok (.iload_n 1, 1) := by decide +kernel
theorem dX5_product_1 : decode cX5_product 1 = .ok (.iload_n 2, 1) := by decide +kernel
theorem dX5_product_2 : decode cX5_product 2 = .ok (.iload_n 3, 1) := by decide +kernel
theorem dX5_product_3 : decode cX5_product 3 = .ok (.invokestatic 146, 3) := by decide +kernel
theorem dX5_product_6 : decode cX5_product 6 = .ok (.aload_n 0, 1) := by decide +kernel
theorem dX5_product_7 : decode cX5_product 7 = .ok (.getfield 42, 3) := by decide +kernel
theorem dX5_product_10 : decode cX5_product 10 = .ok (.iload_n 1, 1) := by decide +kernel
theorem dX5_product_11 : decode cX5_product 11 = .ok (.iload_n 2, 1) := by decide +kernel
theorem dX5_product_12 : decode cX5_product 12 = .ok (.iload_n 3, 1) := by decide +kernel
theorem dX5_product_13 : decode cX5_product 13 = .ok (.invokevirtual 94, 3) := by decide +kernel
theorem dX5_product_16 : decode cX5_product 16 = .ok (.ireturn, 1) := by decide +kernel
theorem dX5_rule_0 : decode cX5_rule 0 = .ok (.aload_n 0, 1) := by decide +kernel
theorem dX5_rule_1 : decode cX5_rule 1 = .ok (.iload_n 1, 1) := by decide +kernel
theorem dX5_rule_2 : decode cX5_rule 2 = .ok (.invokevirtual 149, 3) := by decide +kernel
theorem dX5_rule_5 : decode cX5_rule 5 = .ok (.astore_n 3, 1) := by decide +kernel
theorem dX5_rule_6 : decode cX5_rule 6 = .ok (.iload_n 2, 1) := by decide +kernel
theorem dX5_rule_7 : decode cX5_rule 7 = .ok (.iconst 0, 1) := by decide +kernel
theorem dX5_rule_8 : decode cX5_rule 8 = .ok (.bipush 20, 2) := by decide +kernel
theorem dX5_rule_10 : decode cX5_rule 10 = .ok (.invokestatic 69, 3) := by decide +kernel
theorem dX5_rule_13 : decode cX5_rule 13 = .ok (.aload_n 0, 1) := by decide +kernel
theorem dX5_rule_14 : decode cX5_rule 14 = .ok (.aload_n 3, 1) := by decide +kernel
theorem dX5_rule_15 : decode cX5_rule 15 = .ok (.iload_n 2, 1) := by decide +kernel
theorem dX5_rule_16 : decode cX5_rule 16 = .ok (.aload_n 0, 1) := by decide +kernel
theorem dX5_rule_17 : decode cX5_rule 17 = .ok (.getfield 35, 3) := by decide +kernel
theorem dX5_rule_20 : decode cX5_rule 20 = .ok (.invokevirtual 153, 3) := by decide +kernel
theorem dX5_rule_23 : decode cX5_rule 23 = .ok (.invokevirtual 65, 3) := by decide +kernel
theorem dX5_rule_26 : decode cX5_rule 26 = .ok (.ireturn, 1) := by decide +kernel
theorem dX5_forgetRule_0 : decode cX5_forgetRule 0 = .ok (.aload_n 0, 1) := by decide +kernel
theorem dX5_forgetRule_1 : decode cX5_forgetRule 1 = .ok (.iload_n 1, 1) := by decide +kernel
theorem dX5_forgetRule_2 : decode cX5_forgetRule 2 = .ok (.invokevirtual 149, 3) := by decide +kernel
theorem dX5_forgetRule_5 : decode cX5_forgetRule 5 = .ok (.astore_n 3, 1) := by decide +kernel
theorem dX5_forgetRule_6 : decode cX5_forgetRule 6 = .ok (.iload_n 2, 1) := by decide +kernel
theorem dX5_forgetRule_7 : decode cX5_forgetRule 7 = .ok (.iconst 0, 1) := by decide +kernel
theorem dX5_forgetRule_8 : decode cX5_forgetRule 8 = .ok (.bipush 20, 2) := by decide +kernel
theorem dX5_forgetRule_10 : decode cX5_forgetRule 10 = .ok (.invokestatic 69, 3) := by decide +kernel
theorem dX5_forgetRule_13 : decode cX5_forgetRule 13 = .ok (.iload_n 2, 1) := by decide +kernel
theorem dX5_forgetRule_14 : decode cX5_forgetRule 14 = .ok (.ifCond .ne 12, 3) := by decide +kernel
theorem dX5_forgetRule_17 : decode cX5_forgetRule 17 = .ok (.aload_n 0, 1) := by decide +kernel
theorem dX5_forgetRule_18 : decode cX5_forgetRule 18 = .ok (.aload_n 3, 1) := by decide +kernel
theorem dX5_forgetRule_19 : decode cX5_forgetRule 19 = .ok (.invokevirtual 156, 3) := by decide +kernel
theorem dX5_forgetRule_22 : decode cX5_forgetRule 22 = .ok (.invokevirtual 65, 3) := by decide +kernel
theorem dX5_forgetRule_25 : decode cX5_forgetRule 25 = .ok (.ireturn, 1) := by decide +kernel
theorem dX5_forgetRule_26 : decode cX5_forgetRule 26 = .ok (.aload_n 3, 1) := by decide +kernel
theorem dX5_forgetRule_27 : decode cX5_forgetRule 27 = .ok (.iload_n 2, 1) := by decide +kernel
theorem dX5_forgetRule_28 : decode cX5_forgetRule 28 = .ok (.invokevirtual 157, 3) := by decide +kernel
theorem dX5_forgetRule_31 : decode cX5_forgetRule 31 = .ok (.ifCond .ne 8, 3) := by decide +kernel
theorem dX5_forgetRule_34 : decode cX5_forgetRule 34 = .ok (.aload_n 0, 1) := by decide +kernel
theorem dX5_forgetRule_35 : decode cX5_forgetRule 35 = .ok (.invokevirtual 87, 3) := by decide +kernel
theorem dX5_forgetRule_38 : decode cX5_forgetRule 38 = .ok (.ireturn, 1) := by decide +kernel
theorem dX5_forgetRule_39 : decode cX5_forgetRule 39 = .ok (.aload_n 3, 1) := by decide +kernel
theorem dX5_forgetRule_40 : decode cX5_forgetRule 40 = .ok (.iload_n 2, 1) := by decide +kernel
theorem dX5_forgetRule_41 : decode cX5_forgetRule 41 = .ok (.invokevirtual 160, 3) := by decide +kernel
theorem dX5_forgetRule_44 : decode cX5_forgetRule 44 = .ok (.istore 4, 2) := by decide +kernel
theorem dX5_forgetRule_46 : decode cX5_forgetRule 46 = .ok (.aload_n 3, 1) := by decide +kernel
theorem dX5_forgetRule_47 : decode cX5_forgetRule 47 = .ok (.iload_n 2, 1) := by decide +kernel
theorem dX5_forgetRule_48 : decode cX5_forgetRule 48 = .ok (.invokevirtual 162, 3) := by decide +kernel
theorem dX5_forgetRule_51 : decode cX5_forgetRule 51 = .ok (.aload_n 0, 1) := by decide +kernel
theorem dX5_forgetRule_52 : decode cX5_forgetRule 52 = .ok (.iload 4, 2) := by decide +kernel
theorem dX5_forgetRule_54 : decode cX5_forgetRule 54 = .ok (.invokevirtual 65, 3) := by decide +kernel
theorem dX5_forgetRule_57 : decode cX5_forgetRule 57 = .ok (.ireturn, 1) := by decide +kernel
theorem dX5_ledger_0 : decode cX5_ledger 0 = .ok (.aload_n 0, 1) := by decide +kernel
theorem dX5_ledger_1 : decode cX5_ledger 1 = .ok (.iload_n 1, 1) := by decide +kernel
theorem dX5_ledger_2 : decode cX5_ledger 2 = .ok (.invokevirtual 149, 3) := by decide +kernel
theorem dX5_ledger_5 : decode cX5_ledger 5 = .ok (.astore_n 3, 1) := by decide +kernel
theorem dX5_ledger_6 : decode cX5_ledger 6 = .ok (.iload_n 2, 1) := by decide +kernel
theorem dX5_ledger_7 : decode cX5_ledger 7 = .ok (.iconst 0, 1) := by decide +kernel
theorem dX5_ledger_8 : decode cX5_ledger 8 = .ok (.iconst 1, 1) := by decide +kernel
theorem dX5_ledger_9 : decode cX5_ledger 9 = .ok (.invokestatic 69, 3) := by decide +kernel
theorem dX5_ledger_12 : decode cX5_ledger 12 = .ok (.iload_n 2, 1) := by decide +kernel
theorem dX5_ledger_13 : decode cX5_ledger 13 = .ok (.ifCond .ne 10, 3) := by decide +kernel
theorem dX5_ledger_16 : decode cX5_ledger 16 = .ok (.aload_n 3, 1) := by decide +kernel
theorem dX5_ledger_17 : decode cX5_ledger 17 = .ok (.invokevirtual 164, 3) := by decide +kernel
theorem dX5_ledger_20 : decode cX5_ledger 20 = .ok (.goto 7, 3) := by decide +kernel
theorem dX5_ledger_23 : decode cX5_ledger 23 = .ok (.aload_n 3, 1) := by decide +kernel
theorem dX5_ledger_24 : decode cX5_ledger 24 = .ok (.invokevirtual 165, 3) := by decide +kernel
theorem dX5_ledger_27 : decode cX5_ledger 27 = .ok (.ireturn, 1) := by decide +kernel
theorem dX5_ruleWorth_0 : decode cX5_ruleWorth 0 = .ok (.aload_n 0, 1) := by decide +kernel
theorem dX5_ruleWorth_1 : decode cX5_ruleWorth 1 = .ok (.iload_n 1, 1) := by decide +kernel
theorem dX5_ruleWorth_2 : decode cX5_ruleWorth 2 = .ok (.invokevirtual 149, 3) := by decide +kernel
theorem dX5_ruleWorth_5 : decode cX5_ruleWorth 5 = .ok (.astore 4, 2) := by decide +kernel
theorem dX5_ruleWorth_7 : decode cX5_ruleWorth 7 = .ok (.iload_n 2, 1) := by decide +kernel
theorem dX5_ruleWorth_8 : decode cX5_ruleWorth 8 = .ok (.iconst 0, 1) := by decide +kernel
theorem dX5_ruleWorth_9 : decode cX5_ruleWorth 9 = .ok (.bipush 20, 2) := by decide +kernel
theorem dX5_ruleWorth_11 : decode cX5_ruleWorth 11 = .ok (.invokestatic 69, 3) := by decide +kernel
theorem dX5_ruleWorth_14 : decode cX5_ruleWorth 14 = .ok (.iload_n 3, 1) := by decide +kernel
theorem dX5_ruleWorth_15 : decode cX5_ruleWorth 15 = .ok (.iconst 0, 1) := by decide +kernel
theorem dX5_ruleWorth_16 : decode cX5_ruleWorth 16 = .ok (.iconst 1, 1) := by decide +kernel
theorem dX5_ruleWorth_17 : decode cX5_ruleWorth 17 = .ok (.invokestatic 69, 3) := by decide +kernel
theorem dX5_ruleWorth_20 : decode cX5_ruleWorth 20 = .ok (.aload 4, 2) := by decide +kernel
theorem dX5_ruleWorth_22 : decode cX5_ruleWorth 22 = .ok (.iload_n 2, 1) := by decide +kernel
theorem dX5_ruleWorth_23 : decode cX5_ruleWorth 23 = .ok (.invokevirtual 157, 3) := by decide +kernel
theorem dX5_ruleWorth_26 : decode cX5_ruleWorth 26 = .ok (.ifCond .eq 12, 3) := by decide +kernel
theorem dX5_ruleWorth_29 : decode cX5_ruleWorth 29 = .ok (.aload 4, 2) := by decide +kernel
theorem dX5_ruleWorth_31 : decode cX5_ruleWorth 31 = .ok (.iload_n 2, 1) := by decide +kernel
theorem dX5_ruleWorth_32 : decode cX5_ruleWorth 32 = .ok (.invokevirtual 160, 3) := by decide +kernel
theorem dX5_ruleWorth_35 : decode cX5_ruleWorth 35 = .ok (.goto 4, 3) := by decide +kernel
theorem dX5_ruleWorth_38 : decode cX5_ruleWorth 38 = .ok (.iconst (-1), 1) := by decide +kernel
theorem dX5_ruleWorth_39 : decode cX5_ruleWorth 39 = .ok (.ireturn, 1) := by decide +kernel
theorem dX5_addPart_0 : decode cX5_addPart 0 = .ok (.aload_n 0, 1) := by decide +kernel
theorem dX5_addPart_1 : decode cX5_addPart 1 = .ok (.iload_n 1, 1) := by decide +kernel
theorem dX5_addPart_2 : decode cX5_addPart 2 = .ok (.invokevirtual 72, 3) := by decide +kernel
theorem dX5_addPart_5 : decode cX5_addPart 5 = .ok (.astore 4, 2) := by decide +kernel
theorem dX5_addPart_7 : decode cX5_addPart 7 = .ok (.iload_n 2, 1) := by decide +kernel
theorem dX5_addPart_8 : decode cX5_addPart 8 = .ok (.iconst 1, 1) := by decide +kernel
theorem dX5_addPart_9 : decode cX5_addPart 9 = .ok (.bipush 20, 2) := by decide +kernel
theorem dX5_addPart_11 : decode cX5_addPart 11 = .ok (.invokestatic 69, 3) := by decide +kernel
theorem dX5_addPart_14 : decode cX5_addPart 14 = .ok (.iload_n 3, 1) := by decide +kernel
theorem dX5_addPart_15 : decode cX5_addPart 15 = .ok (.iconst 1, 1) := by decide +kernel
theorem dX5_addPart_16 : decode cX5_addPart 16 = .ok (.bipush 20, 2) := by decide +kernel
theorem dX5_addPart_18 : decode cX5_addPart 18 = .ok (.invokestatic 69, 3) := by decide +kernel
theorem dX5_addPart_21 : decode cX5_addPart 21 = .ok (.aload 4, 2) := by decide +kernel
theorem dX5_addPart_23 : decode cX5_addPart 23 = .ok (.invokevirtual 76, 3) := by decide +kernel
theorem dX5_addPart_26 : decode cX5_addPart 26 = .ok (.iload_n 2, 1) := by decide +kernel
theorem dX5_addPart_27 : decode cX5_addPart 27 = .ok (.iload_n 3, 1) := by decide +kernel
theorem dX5_addPart_28 : decode cX5_addPart 28 = .ok (.imul, 1) := by decide +kernel
theorem dX5_addPart_29 : decode cX5_addPart 29 = .ok (.iadd, 1) := by decide +kernel
theorem dX5_addPart_30 : decode cX5_addPart 30 = .ok (.bipush 20, 2) := by decide +kernel
theorem dX5_addPart_32 : decode cX5_addPart 32 = .ok (.if_icmp .le 8, 3) := by decide +kernel
theorem dX5_addPart_35 : decode cX5_addPart 35 = .ok (.aload_n 0, 1) := by decide +kernel
theorem dX5_addPart_36 : decode cX5_addPart 36 = .ok (.invokevirtual 87, 3) := by decide +kernel
theorem dX5_addPart_39 : decode cX5_addPart 39 = .ok (.ireturn, 1) := by decide +kernel
theorem dX5_addPart_40 : decode cX5_addPart 40 = .ok (.aload 4, 2) := by decide +kernel
theorem dX5_addPart_42 : decode cX5_addPart 42 = .ok (.iload_n 2, 1) := by decide +kernel
theorem dX5_addPart_43 : decode cX5_addPart 43 = .ok (.iload_n 3, 1) := by decide +kernel
theorem dX5_addPart_44 : decode cX5_addPart 44 = .ok (.invokevirtual 166, 3) := by decide +kernel
theorem dX5_addPart_47 : decode cX5_addPart 47 = .ok (.aload_n 0, 1) := by decide +kernel
theorem dX5_addPart_48 : decode cX5_addPart 48 = .ok (.aload 4, 2) := by decide +kernel
theorem dX5_addPart_50 : decode cX5_addPart 50 = .ok (.iload_n 2, 1) := by decide +kernel
theorem dX5_addPart_51 : decode cX5_addPart 51 = .ok (.invokevirtual 80, 3) := by decide +kernel
theorem dX5_addPart_54 : decode cX5_addPart 54 = .ok (.invokevirtual 65, 3) := by decide +kernel
theorem dX5_addPart_57 : decode cX5_addPart 57 = .ok (.ireturn, 1) := by decide +kernel
theorem dX5_takePart_0 : decode cX5_takePart 0 = .ok (.aload_n 0, 1) := by decide +kernel
theorem dX5_takePart_1 : decode cX5_takePart 1 = .ok (.iload_n 1, 1) := by decide +kernel
theorem dX5_takePart_2 : decode cX5_takePart 2 = .ok (.invokevirtual 72, 3) := by decide +kernel
theorem dX5_takePart_5 : decode cX5_takePart 5 = .ok (.astore_n 3, 1) := by decide +kernel
theorem dX5_takePart_6 : decode cX5_takePart 6 = .ok (.iload_n 2, 1) := by decide +kernel
theorem dX5_takePart_7 : decode cX5_takePart 7 = .ok (.iconst 1, 1) := by decide +kernel
theorem dX5_takePart_8 : decode cX5_takePart 8 = .ok (.bipush 20, 2) := by decide +kernel
theorem dX5_takePart_10 : decode cX5_takePart 10 = .ok (.invokestatic 69, 3) := by decide +kernel
theorem dX5_takePart_13 : decode cX5_takePart 13 = .ok (.aload_n 3, 1) := by decide +kernel
theorem dX5_takePart_14 : decode cX5_takePart 14 = .ok (.iload_n 2, 1) := by decide +kernel
theorem dX5_takePart_15 : decode cX5_takePart 15 = .ok (.invokevirtual 80, 3) := by decide +kernel
theorem dX5_takePart_18 : decode cX5_takePart 18 = .ok (.ifCond .ne 8, 3) := by decide +kernel
theorem dX5_takePart_21 : decode cX5_takePart 21 = .ok (.aload_n 0, 1) := by decide +kernel
theorem dX5_takePart_22 : decode cX5_takePart 22 = .ok (.invokevirtual 87, 3) := by decide +kernel
theorem dX5_takePart_25 : decode cX5_takePart 25 = .ok (.ireturn, 1) := by decide +kernel
theorem dX5_takePart_26 : decode cX5_takePart 26 = .ok (.aload_n 3, 1) := by decide +kernel
theorem dX5_takePart_27 : decode cX5_takePart 27 = .ok (.iload_n 2, 1) := by decide +kernel
theorem dX5_takePart_28 : decode cX5_takePart 28 = .ok (.iconst (-1), 1) := by decide +kernel
theorem dX5_takePart_29 : decode cX5_takePart 29 = .ok (.invokevirtual 166, 3) := by decide +kernel
theorem dX5_takePart_32 : decode cX5_takePart 32 = .ok (.aload_n 0, 1) := by decide +kernel
theorem dX5_takePart_33 : decode cX5_takePart 33 = .ok (.aload_n 3, 1) := by decide +kernel
theorem dX5_takePart_34 : decode cX5_takePart 34 = .ok (.iload_n 2, 1) := by decide +kernel
theorem dX5_takePart_35 : decode cX5_takePart 35 = .ok (.invokevirtual 80, 3) := by decide +kernel
theorem dX5_takePart_38 : decode cX5_takePart 38 = .ok (.invokevirtual 65, 3) := by decide +kernel
theorem dX5_takePart_41 : decode cX5_takePart 41 = .ok (.ireturn, 1) := by decide +kernel
theorem dX5_layFirst_0 : decode cX5_layFirst 0 = .ok (.aload_n 0, 1) := by decide +kernel
theorem dX5_layFirst_1 : decode cX5_layFirst 1 = .ok (.iload_n 1, 1) := by decide +kernel
theorem dX5_layFirst_2 : decode cX5_layFirst 2 = .ok (.invokevirtual 72, 3) := by decide +kernel
theorem dX5_layFirst_5 : decode cX5_layFirst 5 = .ok (.astore_n 3, 1) := by decide +kernel
theorem dX5_layFirst_6 : decode cX5_layFirst 6 = .ok (.iload_n 2, 1) := by decide +kernel
theorem dX5_layFirst_7 : decode cX5_layFirst 7 = .ok (.iconst 0, 1) := by decide +kernel
theorem dX5_layFirst_8 : decode cX5_layFirst 8 = .ok (.bipush 20, 2) := by decide +kernel
theorem dX5_layFirst_10 : decode cX5_layFirst 10 = .ok (.invokestatic 69, 3) := by decide +kernel
theorem dX5_layFirst_13 : decode cX5_layFirst 13 = .ok (.aload_n 3, 1) := by decide +kernel
theorem dX5_layFirst_14 : decode cX5_layFirst 14 = .ok (.iload_n 2, 1) := by decide +kernel
theorem dX5_layFirst_15 : decode cX5_layFirst 15 = .ok (.invokevirtual 170, 3) := by decide +kernel
theorem dX5_layFirst_18 : decode cX5_layFirst 18 = .ok (.aload_n 0, 1) := by decide +kernel
theorem dX5_layFirst_19 : decode cX5_layFirst 19 = .ok (.aload_n 3, 1) := by decide +kernel
theorem dX5_layFirst_20 : decode cX5_layFirst 20 = .ok (.invokevirtual 173, 3) := by decide +kernel
theorem dX5_layFirst_23 : decode cX5_layFirst 23 = .ok (.invokevirtual 65, 3) := by decide +kernel
theorem dX5_layFirst_26 : decode cX5_layFirst 26 = .ok (.ireturn, 1) := by decide +kernel
theorem dX5_next_0 : decode cX5_next 0 = .ok (.aload_n 0, 1) := by decide +kernel
theorem dX5_next_1 : decode cX5_next 1 = .ok (.iload_n 1, 1) := by decide +kernel
theorem dX5_next_2 : decode cX5_next 2 = .ok (.invokevirtual 72, 3) := by decide +kernel
theorem dX5_next_5 : decode cX5_next 5 = .ok (.astore_n 2, 1) := by decide +kernel
theorem dX5_next_6 : decode cX5_next 6 = .ok (.aload_n 2, 1) := by decide +kernel
theorem dX5_next_7 : decode cX5_next 7 = .ok (.invokevirtual 176, 3) := by decide +kernel
theorem dX5_next_10 : decode cX5_next 10 = .ok (.ifCond .ne 8, 3) := by decide +kernel
theorem dX5_next_13 : decode cX5_next 13 = .ok (.aload_n 0, 1) := by decide +kernel
theorem dX5_next_14 : decode cX5_next 14 = .ok (.invokevirtual 87, 3) := by decide +kernel
theorem dX5_next_17 : decode cX5_next 17 = .ok (.ireturn, 1) := by decide +kernel
theorem dX5_next_18 : decode cX5_next 18 = .ok (.aload_n 0, 1) := by decide +kernel
theorem dX5_next_19 : decode cX5_next 19 = .ok (.aload_n 2, 1) := by decide +kernel
theorem dX5_next_20 : decode cX5_next 20 = .ok (.invokevirtual 173, 3) := by decide +kernel
theorem dX5_next_23 : decode cX5_next 23 = .ok (.invokevirtual 65, 3) := by decide +kernel
theorem dX5_next_26 : decode cX5_next 26 = .ok (.ireturn, 1) := by decide +kernel
theorem dX5_turn_0 : decode cX5_turn 0 = .ok (.aload_n 0, 1) := by decide +kernel
theorem dX5_turn_1 : decode cX5_turn 1 = .ok (.iload_n 1, 1) := by decide +kernel
theorem dX5_turn_2 : decode cX5_turn 2 = .ok (.invokevirtual 72, 3) := by decide +kernel
theorem dX5_turn_5 : decode cX5_turn 5 = .ok (.astore_n 2, 1) := by decide +kernel
theorem dX5_turn_6 : decode cX5_turn 6 = .ok (.aload_n 0, 1) := by decide +kernel
theorem dX5_turn_7 : decode cX5_turn 7 = .ok (.getfield 50, 3) := by decide +kernel
theorem dX5_turn_10 : decode cX5_turn 10 = .ok (.aload_n 2, 1) := by decide +kernel
theorem dX5_turn_11 : decode cX5_turn 11 = .ok (.invokevirtual 180, 3) := by decide +kernel
theorem dX5_turn_14 : decode cX5_turn 14 = .ok (.aload_n 0, 1) := by decide +kernel
theorem dX5_turn_15 : decode cX5_turn 15 = .ok (.getfield 50, 3) := by decide +kernel
theorem dX5_turn_18 : decode cX5_turn 18 = .ok (.aload_n 2, 1) := by decide +kernel
theorem dX5_turn_19 : decode cX5_turn 19 = .ok (.invokevirtual 184, 3) := by decide +kernel
theorem dX5_turn_22 : decode cX5_turn 22 = .ok (.ifCond .ne 7, 3) := by decide +kernel
theorem dX5_turn_25 : decode cX5_turn 25 = .ok (.iconst 1, 1) := by decide +kernel
theorem dX5_turn_26 : decode cX5_turn 26 = .ok (.goto 4, 3) := by decide +kernel
theorem dX5_turn_29 : decode cX5_turn 29 = .ok (.iconst 0, 1) := by decide +kernel
theorem dX5_turn_30 : decode cX5_turn 30 = .ok (.istore_n 3, 1) := by decide +kernel
theorem dX5_turn_31 : decode cX5_turn 31 = .ok (.aload_n 2, 1) := by decide +kernel
theorem dX5_turn_32 : decode cX5_turn 32 = .ok (.aload_n 0, 1) := by decide +kernel
theorem dX5_turn_33 : decode cX5_turn 33 = .ok (.getfield 50, 3) := by decide +kernel
theorem dX5_turn_36 : decode cX5_turn 36 = .ok (.invokevirtual 187, 3) := by decide +kernel
theorem dX5_turn_39 : decode cX5_turn 39 = .ok (.aload_n 0, 1) := by decide +kernel
theorem dX5_turn_40 : decode cX5_turn 40 = .ok (.iload_n 3, 1) := by decide +kernel
theorem dX5_turn_41 : decode cX5_turn 41 = .ok (.ifCond .eq 7, 3) := by decide +kernel
theorem dX5_turn_44 : decode cX5_turn 44 = .ok (.iconst 1, 1) := by decide +kernel
theorem dX5_turn_45 : decode cX5_turn 45 = .ok (.goto 4, 3) := by decide +kernel
theorem dX5_turn_48 : decode cX5_turn 48 = .ok (.iconst 0, 1) := by decide +kernel
theorem dX5_turn_49 : decode cX5_turn 49 = .ok (.invokevirtual 65, 3) := by decide +kernel
theorem dX5_turn_52 : decode cX5_turn 52 = .ok (.ireturn, 1) := by decide +kernel
theorem dX5_toUnlike_0 : decode cX5_toUnlike 0 = .ok (.aload_n 0, 1) := by decide +kernel
theorem dX5_toUnlike_1 : decode cX5_toUnlike 1 = .ok (.iload_n 1, 1) := by decide +kernel
theorem dX5_toUnlike_2 : decode cX5_toUnlike 2 = .ok (.invokevirtual 72, 3) := by decide +kernel
theorem dX5_toUnlike_5 : decode cX5_toUnlike 5 = .ok (.astore_n 2, 1) := by decide +kernel
theorem dX5_toUnlike_6 : decode cX5_toUnlike 6 = .ok (.aload_n 2, 1) := by decide +kernel
theorem dX5_toUnlike_7 : decode cX5_toUnlike 7 = .ok (.invokevirtual 189, 3) := by decide +kernel
theorem dX5_toUnlike_10 : decode cX5_toUnlike 10 = .ok (.ifCond .ne 8, 3) := by decide +kernel
theorem dX5_toUnlike_13 : decode cX5_toUnlike 13 = .ok (.aload_n 0, 1) := by decide +kernel
theorem dX5_toUnlike_14 : decode cX5_toUnlike 14 = .ok (.invokevirtual 87, 3) := by decide +kernel
theorem dX5_toUnlike_17 : decode cX5_toUnlike 17 = .ok (.ireturn, 1) := by decide +kernel
theorem dX5_toUnlike_18 : decode cX5_toUnlike 18 = .ok (.aload_n 0, 1) := by decide +kernel
theorem dX5_toUnlike_19 : decode cX5_toUnlike 19 = .ok (.getfield 50, 3) := by decide +kernel
theorem dX5_toUnlike_22 : decode cX5_toUnlike 22 = .ok (.aload_n 2, 1) := by decide +kernel
theorem dX5_toUnlike_23 : decode cX5_toUnlike 23 = .ok (.invokevirtual 192, 3) := by decide +kernel
theorem dX5_toUnlike_26 : decode cX5_toUnlike 26 = .ok (.aload_n 2, 1) := by decide +kernel
theorem dX5_toUnlike_27 : decode cX5_toUnlike 27 = .ok (.aload_n 0, 1) := by decide +kernel
theorem dX5_toUnlike_28 : decode cX5_toUnlike 28 = .ok (.getfield 50, 3) := by decide +kernel
theorem dX5_toUnlike_31 : decode cX5_toUnlike 31 = .ok (.invokevirtual 187, 3) := by decide +kernel
theorem dX5_toUnlike_34 : decode cX5_toUnlike 34 = .ok (.aload_n 0, 1) := by decide +kernel
theorem dX5_toUnlike_35 : decode cX5_toUnlike 35 = .ok (.aload_n 2, 1) := by decide +kernel
theorem dX5_toUnlike_36 : decode cX5_toUnlike 36 = .ok (.invokevirtual 173, 3) := by decide +kernel
theorem dX5_toUnlike_39 : decode cX5_toUnlike 39 = .ok (.invokevirtual 65, 3) := by decide +kernel
theorem dX5_toUnlike_42 : decode cX5_toUnlike 42 = .ok (.ireturn, 1) := by decide +kernel
theorem dX5_toOdd_0 : decode cX5_toOdd 0 = .ok (.aload_n 0, 1) := by decide +kernel
theorem dX5_toOdd_1 : decode cX5_toOdd 1 = .ok (.iload_n 1, 1) := by decide +kernel
theorem dX5_toOdd_2 : decode cX5_toOdd 2 = .ok (.invokevirtual 72, 3) := by decide +kernel
theorem dX5_toOdd_5 : decode cX5_toOdd 5 = .ok (.astore_n 2, 1) := by decide +kernel
theorem dX5_toOdd_6 : decode cX5_toOdd 6 = .ok (.aload_n 2, 1) := by decide +kernel
theorem dX5_toOdd_7 : decode cX5_toOdd 7 = .ok (.invokevirtual 195, 3) := by decide +kernel
theorem dX5_toOdd_10 : decode cX5_toOdd 10 = .ok (.ifCond .ne 8, 3) := by decide +kernel
theorem dX5_toOdd_13 : decode cX5_toOdd 13 = .ok (.aload_n 0, 1) := by decide +kernel
theorem dX5_toOdd_14 : decode cX5_toOdd 14 = .ok (.invokevirtual 87, 3) := by decide +kernel
theorem dX5_toOdd_17 : decode cX5_toOdd 17 = .ok (.ireturn, 1) := by decide +kernel
theorem dX5_toOdd_18 : decode cX5_toOdd 18 = .ok (.aload_n 0, 1) := by decide +kernel
theorem dX5_toOdd_19 : decode cX5_toOdd 19 = .ok (.getfield 50, 3) := by decide +kernel
theorem dX5_toOdd_22 : decode cX5_toOdd 22 = .ok (.aload_n 2, 1) := by decide +kernel
theorem dX5_toOdd_23 : decode cX5_toOdd 23 = .ok (.invokevirtual 198, 3) := by decide +kernel
theorem dX5_toOdd_26 : decode cX5_toOdd 26 = .ok (.aload_n 2, 1) := by decide +kernel
theorem dX5_toOdd_27 : decode cX5_toOdd 27 = .ok (.aload_n 0, 1) := by decide +kernel
theorem dX5_toOdd_28 : decode cX5_toOdd 28 = .ok (.getfield 50, 3) := by decide +kernel
theorem dX5_toOdd_31 : decode cX5_toOdd 31 = .ok (.invokevirtual 187, 3) := by decide +kernel
theorem dX5_toOdd_34 : decode cX5_toOdd 34 = .ok (.aload_n 0, 1) := by decide +kernel
theorem dX5_toOdd_35 : decode cX5_toOdd 35 = .ok (.aload_n 2, 1) := by decide +kernel
theorem dX5_toOdd_36 : decode cX5_toOdd 36 = .ok (.invokevirtual 173, 3) := by decide +kernel
theorem dX5_toOdd_39 : decode cX5_toOdd 39 = .ok (.invokevirtual 65, 3) := by decide +kernel
theorem dX5_toOdd_42 : decode cX5_toOdd 42 = .ok (.ireturn, 1) := by decide +kernel
theorem dX5_copyDesk_0 : decode cX5_copyDesk 0 = .ok (.aload_n 0, 1) := by decide +kernel
theorem dX5_copyDesk_1 : decode cX5_copyDesk 1 = .ok (.iload_n 1, 1) := by decide +kernel
theorem dX5_copyDesk_2 : decode cX5_copyDesk 2 = .ok (.invokevirtual 72, 3) := by decide +kernel
theorem dX5_copyDesk_5 : decode cX5_copyDesk 5 = .ok (.astore_n 2, 1) := by decide +kernel
theorem dX5_copyDesk_6 : decode cX5_copyDesk 6 = .ok (.aload_n 0, 1) := by decide +kernel
theorem dX5_copyDesk_7 : decode cX5_copyDesk 7 = .ok (.iconst 1, 1) := by decide +kernel
theorem dX5_copyDesk_8 : decode cX5_copyDesk 8 = .ok (.iload_n 1, 1) := by decide +kernel
theorem dX5_copyDesk_9 : decode cX5_copyDesk 9 = .ok (.isub, 1) := by decide +kernel
theorem dX5_copyDesk_10 : decode cX5_copyDesk 10 = .ok (.invokevirtual 72, 3) := by decide +kernel
theorem dX5_copyDesk_13 : decode cX5_copyDesk 13 = .ok (.aload_n 2, 1) := by decide +kernel
theorem dX5_copyDesk_14 : decode cX5_copyDesk 14 = .ok (.invokevirtual 187, 3) := by decide +kernel
theorem dX5_copyDesk_17 : decode cX5_copyDesk 17 = .ok (.aload_n 0, 1) := by decide +kernel
theorem dX5_copyDesk_18 : decode cX5_copyDesk 18 = .ok (.aload_n 2, 1) := by decide +kernel
theorem dX5_copyDesk_19 : decode cX5_copyDesk 19 = .ok (.invokevirtual 201, 3) := by decide +kernel
theorem dX5_copyDesk_22 : decode cX5_copyDesk 22 = .ok (.invokevirtual 65, 3) := by decide +kernel
theorem dX5_copyDesk_25 : decode cX5_copyDesk 25 = .ok (.ireturn, 1) := by decide +kernel
theorem dX5_times_0 : decode cX5_times 0 = .ok (.aload_n 0, 1) := by decide +kernel
theorem dX5_times_1 : decode cX5_times 1 = .ok (.iload_n 1, 1) := by decide +kernel
theorem dX5_times_2 : decode cX5_times 2 = .ok (.invokevirtual 72, 3) := by decide +kernel
theorem dX5_times_5 : decode cX5_times 5 = .ok (.astore_n 3, 1) := by decide +kernel
theorem dX5_times_6 : decode cX5_times 6 = .ok (.iload_n 2, 1) := by decide +kernel
theorem dX5_times_7 : decode cX5_times 7 = .ok (.iconst 1, 1) := by decide +kernel
theorem dX5_times_8 : decode cX5_times 8 = .ok (.bipush 20, 2) := by decide +kernel
theorem dX5_times_10 : decode cX5_times 10 = .ok (.invokestatic 69, 3) := by decide +kernel
theorem dX5_times_13 : decode cX5_times 13 = .ok (.aload_n 3, 1) := by decide +kernel
theorem dX5_times_14 : decode cX5_times 14 = .ok (.iload_n 2, 1) := by decide +kernel
theorem dX5_times_15 : decode cX5_times 15 = .ok (.invokevirtual 80, 3) := by decide +kernel
theorem dX5_times_18 : decode cX5_times 18 = .ok (.ireturn, 1) := by decide +kernel
theorem dX5_way_0 : decode cX5_way 0 = .ok (.aload_n 0, 1) := by decide +kernel
theorem dX5_way_1 : decode cX5_way 1 = .ok (.iload_n 1, 1) := by decide +kernel
theorem dX5_way_2 : decode cX5_way 2 = .ok (.invokevirtual 72, 3) := by decide +kernel
theorem dX5_way_5 : decode cX5_way 5 = .ok (.astore_n 3, 1) := by decide +kernel
theorem dX5_way_6 : decode cX5_way 6 = .ok (.iload_n 2, 1) := by decide +kernel
theorem dX5_way_7 : decode cX5_way 7 = .ok (.iconst 0, 1) := by decide +kernel
theorem dX5_way_8 : decode cX5_way 8 = .ok (.iconst 2, 1) := by decide +kernel
theorem dX5_way_9 : decode cX5_way 9 = .ok (.invokestatic 69, 3) := by decide +kernel
theorem dX5_way_12 : decode cX5_way 12 = .ok (.iload_n 2, 1) := by decide +kernel
theorem dX5_way_13 : decode cX5_way 13 = .ok (.lookupswitch 37 #[(0, 27), (1, 32)], 27) := by decide +kernel
theorem dX5_way_40 : decode cX5_way 40 = .ok (.aload_n 3, 1) := by decide +kernel
theorem dX5_way_41 : decode cX5_way 41 = .ok (.invokevirtual 76, 3) := by decide +kernel
theorem dX5_way_44 : decode cX5_way 44 = .ok (.ireturn, 1) := by decide +kernel
theorem dX5_way_45 : decode cX5_way 45 = .ok (.aload_n 3, 1) := by decide +kernel
theorem dX5_way_46 : decode cX5_way 46 = .ok (.invokevirtual 173, 3) := by decide +kernel
theorem dX5_way_49 : decode cX5_way 49 = .ok (.ireturn, 1) := by decide +kernel
theorem dX5_way_50 : decode cX5_way 50 = .ok (.aload_n 3, 1) := by decide +kernel
theorem dX5_way_51 : decode cX5_way 51 = .ok (.invokevirtual 201, 3) := by decide +kernel
theorem dX5_way_54 : decode cX5_way 54 = .ok (.ireturn, 1) := by decide +kernel
theorem dX5_wayText_0 : decode cX5_wayText 0 = .ok (.aload_n 0, 1) := by decide +kernel
theorem dX5_wayText_1 : decode cX5_wayText 1 = .ok (.iload_n 1, 1) := by decide +kernel
theorem dX5_wayText_2 : decode cX5_wayText 2 = .ok (.invokevirtual 72, 3) := by decide +kernel
theorem dX5_wayText_5 : decode cX5_wayText 5 = .ok (.invokevirtual 204, 3) := by decide +kernel
theorem dX5_wayText_8 : decode cX5_wayText 8 = .ok (.areturn, 1) := by decide +kernel
theorem dX5_isOf_0 : decode cX5_isOf 0 = .ok (.aload_n 0, 1) := by decide +kernel
theorem dX5_isOf_1 : decode cX5_isOf 1 = .ok (.iload_n 1, 1) := by decide +kernel
theorem dX5_isOf_2 : decode cX5_isOf 2 = .ok (.invokevirtual 72, 3) := by decide +kernel
theorem dX5_isOf_5 : decode cX5_isOf 5 = .ok (.astore 4, 2) := by decide +kernel
theorem dX5_isOf_7 : decode cX5_isOf 7 = .ok (.iload_n 2, 1) := by decide +kernel
theorem dX5_isOf_8 : decode cX5_isOf 8 = .ok (.iconst 0, 1) := by decide +kernel
theorem dX5_isOf_9 : decode cX5_isOf 9 = .ok (.bipush 7, 2) := by decide +kernel
theorem dX5_isOf_11 : decode cX5_isOf 11 = .ok (.invokestatic 69, 3) := by decide +kernel
theorem dX5_isOf_14 : decode cX5_isOf 14 = .ok (.iload_n 3, 1) := by decide +kernel
theorem dX5_isOf_15 : decode cX5_isOf 15 = .ok (.iconst 0, 1) := by decide +kernel
theorem dX5_isOf_16 : decode cX5_isOf 16 = .ok (.bipush 20, 2) := by decide +kernel
theorem dX5_isOf_18 : decode cX5_isOf 18 = .ok (.invokestatic 69, 3) := by decide +kernel
theorem dX5_isOf_21 : decode cX5_isOf 21 = .ok (.aload 4, 2) := by decide +kernel
theorem dX5_isOf_23 : decode cX5_isOf 23 = .ok (.iload_n 2, 1) := by decide +kernel
theorem dX5_isOf_24 : decode cX5_isOf 24 = .ok (.iload_n 3, 1) := by decide +kernel
theorem dX5_isOf_25 : decode cX5_isOf 25 = .ok (.aload_n 0, 1) := by decide +kernel
theorem dX5_isOf_26 : decode cX5_isOf 26 = .ok (.getfield 50, 3) := by decide +kernel
theorem dX5_isOf_29 : decode cX5_isOf 29 = .ok (.invokevirtual 208, 3) := by decide +kernel
theorem dX5_isOf_32 : decode cX5_isOf 32 = .ok (.ireturn, 1) := by decide +kernel
theorem dX5_isSameWay_0 : decode cX5_isSameWay 0 = .ok (.aload_n 0, 1) := by decide +kernel
theorem dX5_isSameWay_1 : decode cX5_isSameWay 1 = .ok (.iconst 0, 1) := by decide +kernel
theorem dX5_isSameWay_2 : decode cX5_isSameWay 2 = .ok (.invokevirtual 72, 3) := by decide +kernel
theorem dX5_isSameWay_5 : decode cX5_isSameWay 5 = .ok (.aload_n 0, 1) := by decide +kernel
theorem dX5_isSameWay_6 : decode cX5_isSameWay 6 = .ok (.iconst 1, 1) := by decide +kernel
theorem dX5_isSameWay_7 : decode cX5_isSameWay 7 = .ok (.invokevirtual 72, 3) := by decide +kernel
theorem dX5_isSameWay_10 : decode cX5_isSameWay 10 = .ok (.invokevirtual 184, 3) := by decide +kernel
theorem dX5_isSameWay_13 : decode cX5_isSameWay 13 = .ok (.ireturn, 1) := by decide +kernel
theorem dX5_tally_0 : decode cX5_tally 0 = .ok (.iload_n 1, 1) := by decide +kernel
theorem dX5_tally_1 : decode cX5_tally 1 = .ok (.iconst 0, 1) := by decide +kernel
theorem dX5_tally_2 : decode cX5_tally 2 = .ok (.iconst 5, 1) := by decide +kernel
theorem dX5_tally_3 : decode cX5_tally 3 = .ok (.invokestatic 69, 3) := by decide +kernel
theorem dX5_tally_6 : decode cX5_tally 6 = .ok (.iload_n 1, 1) := by decide +kernel
theorem dX5_tally_7 : decode cX5_tally 7 = .ok (.tableswitch 73 0 4 #[33, 41, 49, 57, 65], 33) := by decide +kernel
theorem dX5_tally_40 : decode cX5_tally 40 = .ok (.aload_n 0, 1) := by decide +kernel
theorem dX5_tally_41 : decode cX5_tally 41 = .ok (.getfield 35, 3) := by decide +kernel
theorem dX5_tally_44 : decode cX5_tally 44 = .ok (.getfield 212, 3) := by decide +kernel
theorem dX5_tally_47 : decode cX5_tally 47 = .ok (.ireturn, 1) := by decide +kernel
theorem dX5_tally_48 : decode cX5_tally 48 = .ok (.aload_n 0, 1) := by decide +kernel
theorem dX5_tally_49 : decode cX5_tally 49 = .ok (.getfield 35, 3) := by decide +kernel
theorem dX5_tally_52 : decode cX5_tally 52 = .ok (.getfield 216, 3) := by decide +kernel
theorem dX5_tally_55 : decode cX5_tally 55 = .ok (.ireturn, 1) := by decide +kernel
theorem dX5_tally_56 : decode cX5_tally 56 = .ok (.aload_n 0, 1) := by decide +kernel
theorem dX5_tally_57 : decode cX5_tally 57 = .ok (.getfield 35, 3) := by decide +kernel
theorem dX5_tally_60 : decode cX5_tally 60 = .ok (.getfield 219, 3) := by decide +kernel
theorem dX5_tally_63 : decode cX5_tally 63 = .ok (.ireturn, 1) := by decide +kernel
theorem dX5_tally_64 : decode cX5_tally 64 = .ok (.aload_n 0, 1) := by decide +kernel
theorem dX5_tally_65 : decode cX5_tally 65 = .ok (.getfield 35, 3) := by decide +kernel
theorem dX5_tally_68 : decode cX5_tally 68 = .ok (.getfield 222, 3) := by decide +kernel
theorem dX5_tally_71 : decode cX5_tally 71 = .ok (.ireturn, 1) := by decide +kernel
theorem dX5_tally_72 : decode cX5_tally 72 = .ok (.aload_n 0, 1) := by decide +kernel
theorem dX5_tally_73 : decode cX5_tally 73 = .ok (.getfield 35, 3) := by decide +kernel
theorem dX5_tally_76 : decode cX5_tally 76 = .ok (.getfield 225, 3) := by decide +kernel
theorem dX5_tally_79 : decode cX5_tally 79 = .ok (.ireturn, 1) := by decide +kernel
theorem dX5_tally_80 : decode cX5_tally 80 = .ok (.aload_n 0, 1) := by decide +kernel
theorem dX5_tally_81 : decode cX5_tally 81 = .ok (.getfield 35, 3) := by decide +kernel
theorem dX5_tally_84 : decode cX5_tally 84 = .ok (.getfield 227, 3) := by decide +kernel
theorem dX5_tally_87 : decode cX5_tally 87 = .ok (.ireturn, 1) := by decide +kernel
theorem dX5_knock_0 : decode cX5_knock 0 = .ok (.aload_n 0, 1) := by decide +kernel
theorem dX5_knock_1 : decode cX5_knock 1 = .ok (.getfield 35, 3) := by decide +kernel
theorem dX5_knock_4 : decode cX5_knock 4 = .ok (.dup, 1) := by decide +kernel
theorem dX5_knock_5 : decode cX5_knock 5 = .ok (.getfield 227, 3) := by decide +kernel
theorem dX5_knock_8 : decode cX5_knock 8 = .ok (.iconst 1, 1) := by decide +kernel
theorem dX5_knock_9 : decode cX5_knock 9 = .ok (.iadd, 1) := by decide +kernel
theorem dX5_knock_10 : decode cX5_knock 10 = .ok (.putfield 227, 3) := by decide +kernel
theorem dX5_knock_13 : decode cX5_knock 13 = .ok (.aload_n 0, 1) := by decide +kernel
theorem dX5_knock_14 : decode cX5_knock 14 = .ok (.getfield 35, 3) := by decide +kernel
theorem dX5_knock_17 : decode cX5_knock 17 = .ok (.getfield 227, 3) := by decide +kernel
theorem dX5_knock_20 : decode cX5_knock 20 = .ok (.ireturn, 1) := by decide +kernel
theorem dX5_isSound_0 : decode cX5_isSound 0 = .ok (.aload_n 0, 1) := by decide +kernel
theorem dX5_isSound_1 : decode cX5_isSound 1 = .ok (.iload_n 1, 1) := by decide +kernel
theorem dX5_isSound_2 : decode cX5_isSound 2 = .ok (.invokevirtual 53, 3) := by decide +kernel
theorem dX5_isSound_5 : decode cX5_isSound 5 = .ok (.astore_n 2, 1) := by decide +kernel
theorem dX5_isSound_6 : decode cX5_isSound 6 = .ok (.aload_n 2, 1) := by decide +kernel
theorem dX5_isSound_7 : decode cX5_isSound 7 = .ok (.aload_n 0, 1) := by decide +kernel
theorem dX5_isSound_8 : decode cX5_isSound 8 = .ok (.getfield 42, 3) := by decide +kernel
theorem dX5_isSound_11 : decode cX5_isSound 11 = .ok (.invokevirtual 230, 3) := by decide +kernel
theorem dX5_isSound_14 : decode cX5_isSound 14 = .ok (.ifCond .eq 39, 3) := by decide +kernel
theorem dX5_isSound_17 : decode cX5_isSound 17 = .ok (.aload_n 2, 1) := by decide +kernel
theorem dX5_isSound_18 : decode cX5_isSound 18 = .ok (.invokevirtual 234, 3) := by decide +kernel
theorem dX5_isSound_21 : decode cX5_isSound 21 = .ok (.ifCond .eq 32, 3) := by decide +kernel
theorem dX5_isSound_24 : decode cX5_isSound 24 = .ok (.aload_n 0, 1) := by decide +kernel
theorem dX5_isSound_25 : decode cX5_isSound 25 = .ok (.getfield 35, 3) := by decide +kernel
theorem dX5_isSound_28 : decode cX5_isSound 28 = .ok (.getfield 216, 3) := by decide +kernel
theorem dX5_isSound_31 : decode cX5_isSound 31 = .ok (.aload_n 0, 1) := by decide +kernel
theorem dX5_isSound_32 : decode cX5_isSound 32 = .ok (.getfield 35, 3) := by decide +kernel
theorem dX5_isSound_35 : decode cX5_isSound 35 = .ok (.getfield 219, 3) := by decide +kernel
theorem dX5_isSound_38 : decode cX5_isSound 38 = .ok (.aload_n 0, 1) := by decide +kernel
theorem dX5_isSound_39 : decode cX5_isSound 39 = .ok (.getfield 35, 3) := by decide +kernel
theorem dX5_isSound_42 : decode cX5_isSound 42 = .ok (.getfield 222, 3) := by decide +kernel
theorem dX5_isSound_45 : decode cX5_isSound 45 = .ok (.iadd, 1) := by decide +kernel
theorem dX5_isSound_46 : decode cX5_isSound 46 = .ok (.if_icmp .ne 7, 3) := by decide +kernel
theorem dX5_isSound_49 : decode cX5_isSound 49 = .ok (.iconst 1, 1) := by decide +kernel
theorem dX5_isSound_50 : decode cX5_isSound 50 = .ok (.goto 4, 3) := by decide +kernel
theorem dX5_isSound_53 : decode cX5_isSound 53 = .ok (.iconst 0, 1) := by decide +kernel
theorem dX5_isSound_54 : decode cX5_isSound 54 = .ok (.ireturn, 1) := by decide +kernel
theorem dX5_digest_0 : decode cX5_digest 0 = .ok (.ldc2_w 237, 3) := by decide +kernel
theorem dX5_digest_3 : decode cX5_digest 3 = .ok (.lstore_n 1, 1) := by decide +kernel
theorem dX5_digest_4 : decode cX5_digest 4 = .ok (.iconst 0, 1) := by decide +kernel
theorem dX5_digest_5 : decode cX5_digest 5 = .ok (.istore_n 3, 1) := by decide +kernel
theorem dX5_digest_6 : decode cX5_digest 6 = .ok (.iload_n 3, 1) := by decide +kernel
theorem dX5_digest_7 : decode cX5_digest 7 = .ok (.iconst 3, 1) := by decide +kernel
theorem dX5_digest_8 : decode cX5_digest 8 = .ok (.if_icmp .ge 37, 3) := by decide +kernel
theorem dX5_digest_11 : decode cX5_digest 11 = .ok (.lload_n 1, 1) := by decide +kernel
theorem dX5_digest_12 : decode cX5_digest 12 = .ok (.ldc2_w 239, 3) := by decide +kernel
theorem dX5_digest_15 : decode cX5_digest 15 = .ok (.lmul, 1) := by decide +kernel
theorem dX5_digest_16 : decode cX5_digest 16 = .ok (.aload_n 0, 1) := by decide +kernel
theorem dX5_digest_17 : decode cX5_digest 17 = .ok (.iload_n 3, 1) := by decide +kernel
theorem dX5_digest_18 : decode cX5_digest 18 = .ok (.iconst 0, 1) := by decide +kernel
theorem dX5_digest_19 : decode cX5_digest 19 = .ok (.invokevirtual 241, 3) := by decide +kernel
theorem dX5_digest_22 : decode cX5_digest 22 = .ok (.i2l, 1) := by decide +kernel
theorem dX5_digest_23 : decode cX5_digest 23 = .ok (.ladd, 1) := by decide +kernel
theorem dX5_digest_24 : decode cX5_digest 24 = .ok (.lstore_n 1, 1) := by decide +kernel
theorem dX5_digest_25 : decode cX5_digest 25 = .ok (.lload_n 1, 1) := by decide +kernel
theorem dX5_digest_26 : decode cX5_digest 26 = .ok (.ldc2_w 239, 3) := by decide +kernel
theorem dX5_digest_29 : decode cX5_digest 29 = .ok (.lmul, 1) := by decide +kernel
theorem dX5_digest_30 : decode cX5_digest 30 = .ok (.aload_n 0, 1) := by decide +kernel
theorem dX5_digest_31 : decode cX5_digest 31 = .ok (.iload_n 3, 1) := by decide +kernel
theorem dX5_digest_32 : decode cX5_digest 32 = .ok (.iconst 1, 1) := by decide +kernel
theorem dX5_digest_33 : decode cX5_digest 33 = .ok (.invokevirtual 241, 3) := by decide +kernel
theorem dX5_digest_36 : decode cX5_digest 36 = .ok (.i2l, 1) := by decide +kernel
theorem dX5_digest_37 : decode cX5_digest 37 = .ok (.ladd, 1) := by decide +kernel
theorem dX5_digest_38 : decode cX5_digest 38 = .ok (.lstore_n 1, 1) := by decide +kernel
theorem dX5_digest_39 : decode cX5_digest 39 = .ok (.iinc 3 1, 3) := by decide +kernel
theorem dX5_digest_42 : decode cX5_digest 42 = .ok (.goto (-36), 3) := by decide +kernel
theorem dX5_digest_45 : decode cX5_digest 45 = .ok (.iconst 0, 1) := by decide +kernel
theorem dX5_digest_46 : decode cX5_digest 46 = .ok (.istore_n 3, 1) := by decide +kernel
theorem dX5_digest_47 : decode cX5_digest 47 = .ok (.iload_n 3, 1) := by decide +kernel
theorem dX5_digest_48 : decode cX5_digest 48 = .ok (.iconst 3, 1) := by decide +kernel
theorem dX5_digest_49 : decode cX5_digest 49 = .ok (.if_icmp .ge 37, 3) := by decide +kernel
theorem dX5_digest_52 : decode cX5_digest 52 = .ok (.lload_n 1, 1) := by decide +kernel
theorem dX5_digest_53 : decode cX5_digest 53 = .ok (.ldc2_w 239, 3) := by decide +kernel
theorem dX5_digest_56 : decode cX5_digest 56 = .ok (.lmul, 1) := by decide +kernel
theorem dX5_digest_57 : decode cX5_digest 57 = .ok (.aload_n 0, 1) := by decide +kernel
theorem dX5_digest_58 : decode cX5_digest 58 = .ok (.iload_n 3, 1) := by decide +kernel
theorem dX5_digest_59 : decode cX5_digest 59 = .ok (.iconst 0, 1) := by decide +kernel
theorem dX5_digest_60 : decode cX5_digest 60 = .ok (.invokevirtual 244, 3) := by decide +kernel
theorem dX5_digest_63 : decode cX5_digest 63 = .ok (.i2l, 1) := by decide +kernel
theorem dX5_digest_64 : decode cX5_digest 64 = .ok (.ladd, 1) := by decide +kernel
theorem dX5_digest_65 : decode cX5_digest 65 = .ok (.lstore_n 1, 1) := by decide +kernel
theorem dX5_digest_66 : decode cX5_digest 66 = .ok (.lload_n 1, 1) := by decide +kernel
theorem dX5_digest_67 : decode cX5_digest 67 = .ok (.ldc2_w 239, 3) := by decide +kernel
theorem dX5_digest_70 : decode cX5_digest 70 = .ok (.lmul, 1) := by decide +kernel
theorem dX5_digest_71 : decode cX5_digest 71 = .ok (.aload_n 0, 1) := by decide +kernel
theorem dX5_digest_72 : decode cX5_digest 72 = .ok (.iload_n 3, 1) := by decide +kernel
theorem dX5_digest_73 : decode cX5_digest 73 = .ok (.iconst 1, 1) := by decide +kernel
theorem dX5_digest_74 : decode cX5_digest 74 = .ok (.invokevirtual 244, 3) := by decide +kernel
theorem dX5_digest_77 : decode cX5_digest 77 = .ok (.i2l, 1) := by decide +kernel
theorem dX5_digest_78 : decode cX5_digest 78 = .ok (.ladd, 1) := by decide +kernel
theorem dX5_digest_79 : decode cX5_digest 79 = .ok (.lstore_n 1, 1) := by decide +kernel
theorem dX5_digest_80 : decode cX5_digest 80 = .ok (.iinc 3 1, 3) := by decide +kernel
theorem dX5_digest_83 : decode cX5_digest 83 = .ok (.goto (-36), 3) := by decide +kernel
theorem dX5_digest_86 : decode cX5_digest 86 = .ok (.iconst 0, 1) := by decide +kernel
theorem dX5_digest_87 : decode cX5_digest 87 = .ok (.istore_n 3, 1) := by decide +kernel
theorem dX5_digest_88 : decode cX5_digest 88 = .ok (.iload_n 3, 1) := by decide +kernel
theorem dX5_digest_89 : decode cX5_digest 89 = .ok (.iconst 2, 1) := by decide +kernel
theorem dX5_digest_90 : decode cX5_digest 90 = .ok (.if_icmp .ge 68, 3) := by decide +kernel
theorem dX5_digest_93 : decode cX5_digest 93 = .ok (.lload_n 1, 1) := by decide +kernel
theorem dX5_digest_94 : decode cX5_digest 94 = .ok (.ldc2_w 239, 3) := by decide +kernel
theorem dX5_digest_97 : decode cX5_digest 97 = .ok (.lmul, 1) := by decide +kernel
theorem dX5_digest_98 : decode cX5_digest 98 = .ok (.aload_n 0, 1) := by decide +kernel
theorem dX5_digest_99 : decode cX5_digest 99 = .ok (.iload_n 3, 1) := by decide +kernel
theorem dX5_digest_100 : decode cX5_digest 100 = .ok (.iconst 0, 1) := by decide +kernel
theorem dX5_digest_101 : decode cX5_digest 101 = .ok (.invokevirtual 247, 3) := by decide +kernel
theorem dX5_digest_104 : decode cX5_digest 104 = .ok (.i2l, 1) := by decide +kernel
theorem dX5_digest_105 : decode cX5_digest 105 = .ok (.ladd, 1) := by decide +kernel
theorem dX5_digest_106 : decode cX5_digest 106 = .ok (.lstore_n 1, 1) := by decide +kernel
theorem dX5_digest_107 : decode cX5_digest 107 = .ok (.lload_n 1, 1) := by decide +kernel
theorem dX5_digest_108 : decode cX5_digest 108 = .ok (.ldc2_w 239, 3) := by decide +kernel
theorem dX5_digest_111 : decode cX5_digest 111 = .ok (.lmul, 1) := by decide +kernel
theorem dX5_digest_112 : decode cX5_digest 112 = .ok (.aload_n 0, 1) := by decide +kernel
theorem dX5_digest_113 : decode cX5_digest 113 = .ok (.iload_n 3, 1) := by decide +kernel
theorem dX5_digest_114 : decode cX5_digest 114 = .ok (.iconst 1, 1) := by decide +kernel
theorem dX5_digest_115 : decode cX5_digest 115 = .ok (.invokevirtual 247, 3) := by decide +kernel
theorem dX5_digest_118 : decode cX5_digest 118 = .ok (.i2l, 1) := by decide +kernel
theorem dX5_digest_119 : decode cX5_digest 119 = .ok (.ladd, 1) := by decide +kernel
theorem dX5_digest_120 : decode cX5_digest 120 = .ok (.lstore_n 1, 1) := by decide +kernel
theorem dX5_digest_121 : decode cX5_digest 121 = .ok (.iconst 1, 1) := by decide +kernel
theorem dX5_digest_122 : decode cX5_digest 122 = .ok (.istore 4, 2) := by decide +kernel
theorem dX5_digest_124 : decode cX5_digest 124 = .ok (.iload 4, 2) := by decide +kernel
theorem dX5_digest_126 : decode cX5_digest 126 = .ok (.bipush 20, 2) := by decide +kernel
theorem dX5_digest_128 : decode cX5_digest 128 = .ok (.if_icmp .gt 24, 3) := by decide +kernel
theorem dX5_digest_131 : decode cX5_digest 131 = .ok (.lload_n 1, 1) := by decide +kernel
theorem dX5_digest_132 : decode cX5_digest 132 = .ok (.ldc2_w 239, 3) := by decide +kernel
theorem dX5_digest_135 : decode cX5_digest 135 = .ok (.lmul, 1) := by decide +kernel
theorem dX5_digest_136 : decode cX5_digest 136 = .ok (.aload_n 0, 1) := by decide +kernel
theorem dX5_digest_137 : decode cX5_digest 137 = .ok (.iload_n 3, 1) := by decide +kernel
theorem dX5_digest_138 : decode cX5_digest 138 = .ok (.iload 4, 2) := by decide +kernel
theorem dX5_digest_140 : decode cX5_digest 140 = .ok (.invokevirtual 250, 3) := by decide +kernel
theorem dX5_digest_143 : decode cX5_digest 143 = .ok (.i2l, 1) := by decide +kernel
theorem dX5_digest_144 : decode cX5_digest 144 = .ok (.ladd, 1) := by decide +kernel
theorem dX5_digest_145 : decode cX5_digest 145 = .ok (.lstore_n 1, 1) := by decide +kernel
theorem dX5_digest_146 : decode cX5_digest 146 = .ok (.iinc 4 1, 3) := by decide +kernel
theorem dX5_digest_149 : decode cX5_digest 149 = .ok (.goto (-25), 3) := by decide +kernel
theorem dX5_digest_152 : decode cX5_digest 152 = .ok (.iinc 3 1, 3) := by decide +kernel
theorem dX5_digest_155 : decode cX5_digest 155 = .ok (.goto (-67), 3) := by decide +kernel
theorem dX5_digest_158 : decode cX5_digest 158 = .ok (.iconst 0, 1) := by decide +kernel
theorem dX5_digest_159 : decode cX5_digest 159 = .ok (.istore_n 3, 1) := by decide +kernel
theorem dX5_digest_160 : decode cX5_digest 160 = .ok (.iload_n 3, 1) := by decide +kernel
theorem dX5_digest_161 : decode cX5_digest 161 = .ok (.iconst 5, 1) := by decide +kernel
theorem dX5_digest_162 : decode cX5_digest 162 = .ok (.if_icmp .gt 22, 3) := by decide +kernel
theorem dX5_digest_165 : decode cX5_digest 165 = .ok (.lload_n 1, 1) := by decide +kernel
theorem dX5_digest_166 : decode cX5_digest 166 = .ok (.ldc2_w 239, 3) := by decide +kernel
theorem dX5_digest_169 : decode cX5_digest 169 = .ok (.lmul, 1) := by decide +kernel
theorem dX5_digest_170 : decode cX5_digest 170 = .ok (.aload_n 0, 1) := by decide +kernel
theorem dX5_digest_171 : decode cX5_digest 171 = .ok (.iload_n 3, 1) := by decide +kernel
theorem dX5_digest_172 : decode cX5_digest 172 = .ok (.invokevirtual 253, 3) := by decide +kernel
theorem dX5_digest_175 : decode cX5_digest 175 = .ok (.i2l, 1) := by decide +kernel
theorem dX5_digest_176 : decode cX5_digest 176 = .ok (.ladd, 1) := by decide +kernel
theorem dX5_digest_177 : decode cX5_digest 177 = .ok (.lstore_n 1, 1) := by decide +kernel
theorem dX5_digest_178 : decode cX5_digest 178 = .ok (.iinc 3 1, 3) := by decide +kernel
theorem dX5_digest_181 : decode cX5_digest 181 = .ok (.goto (-21), 3) := by decide +kernel
theorem dX5_digest_184 : decode cX5_digest 184 = .ok (.lload_n 1, 1) := by decide +kernel
theorem dX5_digest_185 : decode cX5_digest 185 = .ok (.lreturn, 1) := by decide +kernel
theorem dX5_memoryAt_0 : decode cX5_memoryAt 0 = .ok (.iload_n 1, 1) := by decide +kernel
theorem dX5_memoryAt_1 : decode cX5_memoryAt 1 = .ok (.ifCond .lt 12, 3) := by decide +kernel
theorem dX5_memoryAt_4 : decode cX5_memoryAt 4 = .ok (.iload_n 1, 1) := by decide +kernel
theorem dX5_memoryAt_5 : decode cX5_memoryAt 5 = .ok (.aload_n 0, 1) := by decide +kernel
theorem dX5_memoryAt_6 : decode cX5_memoryAt 6 = .ok (.getfield 11, 3) := by decide +kernel
theorem dX5_memoryAt_9 : decode cX5_memoryAt 9 = .ok (.arraylength, 1) := by decide +kernel
theorem dX5_memoryAt_10 : decode cX5_memoryAt 10 = .ok (.if_icmp .lt 14, 3) := by decide +kernel
theorem dX5_memoryAt_13 : decode cX5_memoryAt 13 = .ok (.new 256, 3) := by decide +kernel
theorem dX5_memoryAt_16 : decode cX5_memoryAt 16 = .ok (.dup, 1) := by decide +kernel
theorem dX5_memoryAt_17 : decode cX5_memoryAt 17 = .ok (.ldc_w 258, 3) := by decide +kernel
theorem dX5_memoryAt_20 : decode cX5_memoryAt 20 = .ok (.invokespecial 260, 3) := by decide +kernel
theorem dX5_memoryAt_23 : decode cX5_memoryAt 23 = .ok (.athrow, 1) := by decide +kernel
theorem dX5_memoryAt_24 : decode cX5_memoryAt 24 = .ok (.aload_n 0, 1) := by decide +kernel
theorem dX5_memoryAt_25 : decode cX5_memoryAt 25 = .ok (.getfield 11, 3) := by decide +kernel
theorem dX5_memoryAt_28 : decode cX5_memoryAt 28 = .ok (.iload_n 1, 1) := by decide +kernel
theorem dX5_memoryAt_29 : decode cX5_memoryAt 29 = .ok (.aaload, 1) := by decide +kernel
theorem dX5_memoryAt_30 : decode cX5_memoryAt 30 = .ok (.areturn, 1) := by decide +kernel
theorem dX5_ledgerAt_0 : decode cX5_ledgerAt 0 = .ok (.iload_n 1, 1) := by decide +kernel
theorem dX5_ledgerAt_1 : decode cX5_ledgerAt 1 = .ok (.ifCond .lt 12, 3) := by decide +kernel
theorem dX5_ledgerAt_4 : decode cX5_ledgerAt 4 = .ok (.iload_n 1, 1) := by decide +kernel
theorem dX5_ledgerAt_5 : decode cX5_ledgerAt 5 = .ok (.aload_n 0, 1) := by decide +kernel
theorem dX5_ledgerAt_6 : decode cX5_ledgerAt 6 = .ok (.getfield 18, 3) := by decide +kernel
theorem dX5_ledgerAt_9 : decode cX5_ledgerAt 9 = .ok (.arraylength, 1) := by decide +kernel
theorem dX5_ledgerAt_10 : decode cX5_ledgerAt 10 = .ok (.if_icmp .lt 14, 3) := by decide +kernel
theorem dX5_ledgerAt_13 : decode cX5_ledgerAt 13 = .ok (.new 256, 3) := by decide +kernel
theorem dX5_ledgerAt_16 : decode cX5_ledgerAt 16 = .ok (.dup, 1) := by decide +kernel
theorem dX5_ledgerAt_17 : decode cX5_ledgerAt 17 = .ok (.ldc_w 263, 3) := by decide +kernel
theorem dX5_ledgerAt_20 : decode cX5_ledgerAt 20 = .ok (.invokespecial 260, 3) := by decide +kernel
theorem dX5_ledgerAt_23 : decode cX5_ledgerAt 23 = .ok (.athrow, 1) := by decide +kernel
theorem dX5_ledgerAt_24 : decode cX5_ledgerAt 24 = .ok (.aload_n 0, 1) := by decide +kernel
theorem dX5_ledgerAt_25 : decode cX5_ledgerAt 25 = .ok (.getfield 18, 3) := by decide +kernel
theorem dX5_ledgerAt_28 : decode cX5_ledgerAt 28 = .ok (.iload_n 1, 1) := by decide +kernel
theorem dX5_ledgerAt_29 : decode cX5_ledgerAt 29 = .ok (.aaload, 1) := by decide +kernel
theorem dX5_ledgerAt_30 : decode cX5_ledgerAt 30 = .ok (.areturn, 1) := by decide +kernel
theorem dX5_deskAt_0 : decode cX5_deskAt 0 = .ok (.iload_n 1, 1) := by decide +kernel
theorem dX5_deskAt_1 : decode cX5_deskAt 1 = .ok (.ifCond .lt 12, 3) := by decide +kernel
theorem dX5_deskAt_4 : decode cX5_deskAt 4 = .ok (.iload_n 1, 1) := by decide +kernel
theorem dX5_deskAt_5 : decode cX5_deskAt 5 = .ok (.aload_n 0, 1) := by decide +kernel
theorem dX5_deskAt_6 : decode cX5_deskAt 6 = .ok (.getfield 27, 3) := by decide +kernel
theorem dX5_deskAt_9 : decode cX5_deskAt 9 = .ok (.arraylength, 1) := by decide +kernel
theorem dX5_deskAt_10 : decode cX5_deskAt 10 = .ok (.if_icmp .lt 14, 3) := by decide +kernel
theorem dX5_deskAt_13 : decode cX5_deskAt 13 = .ok (.new 256, 3) := by decide +kernel
theorem dX5_deskAt_16 : decode cX5_deskAt 16 = .ok (.dup, 1) := by decide +kernel
theorem dX5_deskAt_17 : decode cX5_deskAt 17 = .ok (.ldc_w 265, 3) := by decide +kernel
theorem dX5_deskAt_20 : decode cX5_deskAt 20 = .ok (.invokespecial 260, 3) := by decide +kernel
theorem dX5_deskAt_23 : decode cX5_deskAt 23 = .ok (.athrow, 1) := by decide +kernel
theorem dX5_deskAt_24 : decode cX5_deskAt 24 = .ok (.aload_n 0, 1) := by decide +kernel
theorem dX5_deskAt_25 : decode cX5_deskAt 25 = .ok (.getfield 27, 3) := by decide +kernel
theorem dX5_deskAt_28 : decode cX5_deskAt 28 = .ok (.iload_n 1, 1) := by decide +kernel
theorem dX5_deskAt_29 : decode cX5_deskAt 29 = .ok (.aaload, 1) := by decide +kernel
theorem dX5_deskAt_30 : decode cX5_deskAt 30 = .ok (.areturn, 1) := by decide +kernel
theorem dX5_checkRange_0 : decode cX5_checkRange 0 = .ok (.iload_n 0, 1) := by decide +kernel
theorem dX5_checkRange_1 : decode cX5_checkRange 1 = .ok (.iload_n 1, 1) := by decide +kernel
theorem dX5_checkRange_2 : decode cX5_checkRange 2 = .ok (.if_icmp .lt 8, 3) := by decide +kernel
theorem dX5_checkRange_5 : decode cX5_checkRange 5 = .ok (.iload_n 0, 1) := by decide +kernel
theorem dX5_checkRange_6 : decode cX5_checkRange 6 = .ok (.iload_n 2, 1) := by decide +kernel
theorem dX5_checkRange_7 : decode cX5_checkRange 7 = .ok (.if_icmp .le 14, 3) := by decide +kernel
theorem dX5_checkRange_10 : decode cX5_checkRange 10 = .ok (.new 267, 3) := by decide +kernel
theorem dX5_checkRange_13 : decode cX5_checkRange 13 = .ok (.dup, 1) := by decide +kernel
theorem dX5_checkRange_14 : decode cX5_checkRange 14 = .ok (.ldc_w 269, 3) := by decide +kernel
theorem dX5_checkRange_17 : decode cX5_checkRange 17 = .ok (.invokespecial 271, 3) := by decide +kernel
theorem dX5_checkRange_20 : decode cX5_checkRange 20 = .ok (.athrow, 1) := by decide +kernel
theorem dX5_checkRange_21 : decode cX5_checkRange 21 = .ok (.return_, 1) := by decide +kernel
theorem dX5_checkCase_0 : decode cX5_checkCase 0 = .ok (.iload_n 0, 1) := by decide +kernel
theorem dX5_checkCase_1 : decode cX5_checkCase 1 = .ok (.iconst 0, 1) := by decide +kernel
theorem dX5_checkCase_2 : decode cX5_checkCase 2 = .ok (.iconst 5, 1) := by decide +kernel
theorem dX5_checkCase_3 : decode cX5_checkCase 3 = .ok (.invokestatic 69, 3) := by decide +kernel
theorem dX5_checkCase_6 : decode cX5_checkCase 6 = .ok (.iload_n 1, 1) := by decide +kernel
theorem dX5_checkCase_7 : decode cX5_checkCase 7 = .ok (.iconst 0, 1) := by decide +kernel
theorem dX5_checkCase_8 : decode cX5_checkCase 8 = .ok (.bipush 20, 2) := by decide +kernel
theorem dX5_checkCase_10 : decode cX5_checkCase 10 = .ok (.invokestatic 69, 3) := by decide +kernel
theorem dX5_checkCase_13 : decode cX5_checkCase 13 = .ok (.iload_n 2, 1) := by decide +kernel
theorem dX5_checkCase_14 : decode cX5_checkCase 14 = .ok (.iconst 0, 1) := by decide +kernel
theorem dX5_checkCase_15 : decode cX5_checkCase 15 = .ok (.bipush 20, 2) := by decide +kernel
theorem dX5_checkCase_17 : decode cX5_checkCase 17 = .ok (.invokestatic 69, 3) := by decide +kernel
theorem dX5_checkCase_20 : decode cX5_checkCase 20 = .ok (.return_, 1) := by decide +kernel
theorem dX5_checkAnyCase_0 : decode cX5_checkAnyCase 0 = .ok (.iload_n 0, 1) := by decide +kernel
theorem dX5_checkAnyCase_1 : decode cX5_checkAnyCase 1 = .ok (.iconst 0, 1) := by decide +kernel
theorem dX5_checkAnyCase_2 : decode cX5_checkAnyCase 2 = .ok (.bipush 7, 2) := by decide +kernel
theorem dX5_checkAnyCase_4 : decode cX5_checkAnyCase 4 = .ok (.invokestatic 69, 3) := by decide +kernel
theorem dX5_checkAnyCase_7 : decode cX5_checkAnyCase 7 = .ok (.iload_n 1, 1) := by decide +kernel
theorem dX5_checkAnyCase_8 : decode cX5_checkAnyCase 8 = .ok (.iconst 0, 1) := by decide +kernel
theorem dX5_checkAnyCase_9 : decode cX5_checkAnyCase 9 = .ok (.bipush 20, 2) := by decide +kernel
theorem dX5_checkAnyCase_11 : decode cX5_checkAnyCase 11 = .ok (.invokestatic 69, 3) := by decide +kernel
theorem dX5_checkAnyCase_14 : decode cX5_checkAnyCase 14 = .ok (.iload_n 2, 1) := by decide +kernel
theorem dX5_checkAnyCase_15 : decode cX5_checkAnyCase 15 = .ok (.iconst 0, 1) := by decide +kernel
theorem dX5_checkAnyCase_16 : decode cX5_checkAnyCase 16 = .ok (.bipush 20, 2) := by decide +kernel
theorem dX5_checkAnyCase_18 : decode cX5_checkAnyCase 18 = .ok (.invokestatic 69, 3) := by decide +kernel
theorem dX5_checkAnyCase_21 : decode cX5_checkAnyCase 21 = .ok (.return_, 1) := by decide +kernel
theorem dX5_acted_0 : decode cX5_acted 0 = .ok (.aload_n 0, 1) := by decide +kernel
theorem dX5_acted_1 : decode cX5_acted 1 = .ok (.getfield 35, 3) := by decide +kernel
theorem dX5_acted_4 : decode cX5_acted 4 = .ok (.dup, 1) := by decide +kernel
theorem dX5_acted_5 : decode cX5_acted 5 = .ok (.getfield 212, 3) := by decide +kernel
theorem dX5_acted_8 : decode cX5_acted 8 = .ok (.iconst 1, 1) := by decide +kernel
theorem dX5_acted_9 : decode cX5_acted 9 = .ok (.iadd, 1) := by decide +kernel
theorem dX5_acted_10 : decode cX5_acted 10 = .ok (.putfield 212, 3) := by decide +kernel
theorem dX5_acted_13 : decode cX5_acted 13 = .ok (.iload_n 1, 1) := by decide +kernel
theorem dX5_acted_14 : decode cX5_acted 14 = .ok (.ireturn, 1) := by decide +kernel
theorem dX5_undone_0 : decode cX5_undone 0 = .ok (.aload_n 0, 1) := by decide +kernel
theorem dX5_undone_1 : decode cX5_undone 1 = .ok (.getfield 35, 3) := by decide +kernel
theorem dX5_undone_4 : decode cX5_undone 4 = .ok (.dup, 1) := by decide +kernel
theorem dX5_undone_5 : decode cX5_undone 5 = .ok (.getfield 225, 3) := by decide +kernel
theorem dX5_undone_8 : decode cX5_undone 8 = .ok (.iconst 1, 1) := by decide +kernel
theorem dX5_undone_9 : decode cX5_undone 9 = .ok (.iadd, 1) := by decide +kernel
theorem dX5_undone_10 : decode cX5_undone 10 = .ok (.putfield 225, 3) := by decide +kernel
theorem dX5_undone_13 : decode cX5_undone 13 = .ok (.bipush (-9), 2) := by decide +kernel
theorem dX5_undone_15 : decode cX5_undone 15 = .ok (.ireturn, 1) := by decide +kernel
theorem dX5_waysOneByOne_0 : decode cX5_waysOneByOne 0 = .ok (.aload_n 0, 1) := by decide +kernel
theorem dX5_waysOneByOne_1 : decode cX5_waysOneByOne 1 = .ok (.getfield 46, 3) := by decide +kernel
theorem dX5_waysOneByOne_4 : decode cX5_waysOneByOne 4 = .ok (.iload_n 2, 1) := by decide +kernel
theorem dX5_waysOneByOne_5 : decode cX5_waysOneByOne 5 = .ok (.invokevirtual 170, 3) := by decide +kernel
theorem dX5_waysOneByOne_8 : decode cX5_waysOneByOne 8 = .ok (.iconst 0, 1) := by decide +kernel
theorem dX5_waysOneByOne_9 : decode cX5_waysOneByOne 9 = .ok (.istore 4, 2) := by decide +kernel
theorem dX5_waysOneByOne_11 : decode cX5_waysOneByOne 11 = .ok (.iconst 0, 1) := by decide +kernel
theorem dX5_waysOneByOne_12 : decode cX5_waysOneByOne 12 = .ok (.istore 5, 2) := by decide +kernel
theorem dX5_waysOneByOne_14 : decode cX5_waysOneByOne 14 = .ok (.iload 5, 2) := by decide +kernel
theorem dX5_waysOneByOne_16 : decode cX5_waysOneByOne 16 = .ok (.ldc_w 272, 3) := by decide +kernel
theorem dX5_waysOneByOne_19 : decode cX5_waysOneByOne 19 = .ok (.if_icmp .ge 41, 3) := by decide +kernel
theorem dX5_waysOneByOne_22 : decode cX5_waysOneByOne 22 = .ok (.aload_n 0, 1) := by decide +kernel
theorem dX5_waysOneByOne_23 : decode cX5_waysOneByOne 23 = .ok (.getfield 46, 3) := by decide +kernel
theorem dX5_waysOneByOne_26 : decode cX5_waysOneByOne 26 = .ok (.iload_n 1, 1) := by decide +kernel
theorem dX5_waysOneByOne_27 : decode cX5_waysOneByOne 27 = .ok (.iload_n 3, 1) := by decide +kernel
theorem dX5_waysOneByOne_28 : decode cX5_waysOneByOne 28 = .ok (.aload_n 0, 1) := by decide +kernel
theorem dX5_waysOneByOne_29 : decode cX5_waysOneByOne 29 = .ok (.getfield 50, 3) := by decide +kernel
theorem dX5_waysOneByOne_32 : decode cX5_waysOneByOne 32 = .ok (.invokevirtual 208, 3) := by decide +kernel
theorem dX5_waysOneByOne_35 : decode cX5_waysOneByOne 35 = .ok (.ifCond .eq 6, 3) := by decide +kernel
theorem dX5_waysOneByOne_38 : decode cX5_waysOneByOne 38 = .ok (.iinc 4 1, 3) := by decide +kernel
theorem dX5_waysOneByOne_41 : decode cX5_waysOneByOne 41 = .ok (.aload_n 0, 1) := by decide +kernel
theorem dX5_waysOneByOne_42 : decode cX5_waysOneByOne 42 = .ok (.getfield 46, 3) := by decide +kernel
theorem dX5_waysOneByOne_45 : decode cX5_waysOneByOne 45 = .ok (.invokevirtual 176, 3) := by decide +kernel
theorem dX5_waysOneByOne_48 : decode cX5_waysOneByOne 48 = .ok (.ifCond .ne 6, 3) := by decide +kernel
theorem dX5_waysOneByOne_51 : decode cX5_waysOneByOne 51 = .ok (.goto 9, 3) := by decide +kernel
theorem dX5_waysOneByOne_54 : decode cX5_waysOneByOne 54 = .ok (.iinc 5 1, 3) := by decide +kernel
theorem dX5_waysOneByOne_57 : decode cX5_waysOneByOne 57 = .ok (.goto (-43), 3) := by decide +kernel
theorem dX5_waysOneByOne_60 : decode cX5_waysOneByOne 60 = .ok (.iload 4, 2) := by decide +kernel
theorem dX5_waysOneByOne_62 : decode cX5_waysOneByOne 62 = .ok (.ireturn, 1) := by decide +kernel
theorem dX5_rests_0 : decode cX5_rests 0 = .ok (.iload_n 0, 1) := by decide +kernel
theorem dX5_rests_1 : decode cX5_rests 1 = .ok (.ifCond .le 7, 3) := by decide +kernel
theorem dX5_rests_4 : decode cX5_rests 4 = .ok (.iload_n 1, 1) := by decide +kernel
theorem dX5_rests_5 : decode cX5_rests 5 = .ok (.ifCond .ne 7, 3) := by decide +kernel
theorem dX5_rests_8 : decode cX5_rests 8 = .ok (.iconst 1, 1) := by decide +kernel
theorem dX5_rests_9 : decode cX5_rests 9 = .ok (.goto 4, 3) := by decide +kernel
theorem dX5_rests_12 : decode cX5_rests 12 = .ok (.iconst 0, 1) := by decide +kernel
theorem dX5_rests_13 : decode cX5_rests 13 = .ok (.ireturn, 1) := by decide +kernel
theorem dX5_restingWorth_0 : decode cX5_restingWorth 0 = .ok (.iload_n 1, 1) := by decide +kernel
theorem dX5_restingWorth_1 : decode cX5_restingWorth 1 = .ok (.ifCond .eq 5, 3) := by decide +kernel
theorem dX5_restingWorth_4 : decode cX5_restingWorth 4 = .ok (.iconst 0, 1) := by decide +kernel
theorem dX5_restingWorth_5 : decode cX5_restingWorth 5 = .ok (.ireturn, 1) := by decide +kernel
theorem dX5_restingWorth_6 : decode cX5_restingWorth 6 = .ok (.iload_n 0, 1) := by decide +kernel
theorem dX5_restingWorth_7 : decode cX5_restingWorth 7 = .ok (.iconst 1, 1) := by decide +kernel
theorem dX5_restingWorth_8 : decode cX5_restingWorth 8 = .ok (.if_icmp .eq 8, 3) := by decide +kernel
theorem dX5_restingWorth_11 : decode cX5_restingWorth 11 = .ok (.iload_n 0, 1) := by decide +kernel
theorem dX5_restingWorth_12 : decode cX5_restingWorth 12 = .ok (.iconst 5, 1) := by decide +kernel
theorem dX5_restingWorth_13 : decode cX5_restingWorth 13 = .ok (.if_icmp .ne 11, 3) := by decide +kernel
theorem dX5_restingWorth_16 : decode cX5_restingWorth 16 = .ok (.iload_n 2, 1) := by decide +kernel
theorem dX5_restingWorth_17 : decode cX5_restingWorth 17 = .ok (.ifCond .eq 7, 3) := by decide +kernel
theorem dX5_restingWorth_20 : decode cX5_restingWorth 20 = .ok (.iconst 0, 1) := by decide +kernel
theorem dX5_restingWorth_21 : decode cX5_restingWorth 21 = .ok (.goto 4, 3) := by decide +kernel
theorem dX5_restingWorth_24 : decode cX5_restingWorth 24 = .ok (.iconst 1, 1) := by decide +kernel
theorem dX5_restingWorth_25 : decode cX5_restingWorth 25 = .ok (.ireturn, 1) := by decide +kernel
theorem dX6_init_0 : decode cX6_init 0 = .ok (.aload_n 0, 1) := by decide +kernel
theorem dX6_init_1 : decode cX6_init 1 = .ok (.invokespecial 1, 3) := by decide +kernel
theorem dX6_init_4 : decode cX6_init 4 = .ok (.return_, 1) := by decide +kernel
theorem dX7_init_0 : decode cX7_init 0 = .ok (.aload_n 0, 1) := by decide +kernel
theorem dX7_init_1 : decode cX7_init 1 = .ok (.invokespecial 3, 3) := by decide +kernel
theorem dX7_init_4 : decode cX7_init 4 = .ok (.aload_n 0, 1) := by decide +kernel
theorem dX7_init_5 : decode cX7_init 5 = .ok (.iconst 3, 1) := by decide +kernel
theorem dX7_init_6 : decode cX7_init 6 = .ok (.sipush 6144, 3) := by decide +kernel
theorem dX7_init_9 : decode cX7_init 9 = .ok (.multianewarray 9 2, 4) := by decide +kernel
theorem dX7_init_13 : decode cX7_init 13 = .ok (.putfield 11, 3) := by decide +kernel
theorem dX7_init_16 : decode cX7_init 16 = .ok (.aload_n 0, 1) := by decide +kernel
theorem dX7_init_17 : decode cX7_init 17 = .ok (.iconst 3, 1) := by decide +kernel
theorem dX7_init_18 : decode cX7_init 18 = .ok (.bipush 21, 2) := by decide +kernel
theorem dX7_init_20 : decode cX7_init 20 = .ok (.multianewarray 9 2, 4) := by decide +kernel
theorem dX7_init_24 : decode cX7_init 24 = .ok (.putfield 14, 3) := by decide +kernel
theorem dX7_init_27 : decode cX7_init 27 = .ok (.aload_n 0, 1) := by decide +kernel
theorem dX7_init_28 : decode cX7_init 28 = .ok (.iconst 2, 1) := by decide +kernel
theorem dX7_init_29 : decode cX7_init 29 = .ok (.bipush 21, 2) := by decide +kernel
theorem dX7_init_31 : decode cX7_init 31 = .ok (.multianewarray 9 2, 4) := by decide +kernel
theorem dX7_init_35 : decode cX7_init 35 = .ok (.putfield 17, 3) := by decide +kernel
theorem dX7_init_38 : decode cX7_init 38 = .ok (.aload_n 0, 1) := by decide +kernel
theorem dX7_init_39 : decode cX7_init 39 = .ok (.bipush 6, 2) := by decide +kernel
theorem dX7_init_41 : decode cX7_init 41 = .ok (.newarray .int, 2) := by decide +kernel
theorem dX7_init_43 : decode cX7_init 43 = .ok (.putfield 20, 3) := by decide +kernel
theorem dX7_init_46 : decode cX7_init 46 = .ok (.aload_n 0, 1) := by decide +kernel
theorem dX7_init_47 : decode cX7_init 47 = .ok (.sipush 441, 3) := by decide +kernel
theorem dX7_init_50 : decode cX7_init 50 = .ok (.newarray .int, 2) := by decide +kernel
theorem dX7_init_52 : decode cX7_init 52 = .ok (.putfield 24, 3) := by decide +kernel
theorem dX7_init_55 : decode cX7_init 55 = .ok (.aload_n 0, 1) := by decide +kernel
theorem dX7_init_56 : decode cX7_init 56 = .ok (.getfield 11, 3) := by decide +kernel
theorem dX7_init_59 : decode cX7_init 59 = .ok (.astore_n 1, 1) := by decide +kernel
theorem dX7_init_60 : decode cX7_init 60 = .ok (.aload_n 1, 1) := by decide +kernel
theorem dX7_init_61 : decode cX7_init 61 = .ok (.arraylength, 1) := by decide +kernel
theorem dX7_init_62 : decode cX7_init 62 = .ok (.istore_n 2, 1) := by decide +kernel
theorem dX7_init_63 : decode cX7_init 63 = .ok (.iconst 0, 1) := by decide +kernel
theorem dX7_init_64 : decode cX7_init 64 = .ok (.istore_n 3, 1) := by decide +kernel
theorem dX7_init_65 : decode cX7_init 65 = .ok (.iload_n 3, 1) := by decide +kernel
theorem dX7_init_66 : decode cX7_init 66 = .ok (.iload_n 2, 1) := by decide +kernel
theorem dX7_init_67 : decode cX7_init 67 = .ok (.if_icmp .ge 37, 3) := by decide +kernel
theorem dX7_init_70 : decode cX7_init 70 = .ok (.aload_n 1, 1) := by decide +kernel
theorem dX7_init_71 : decode cX7_init 71 = .ok (.iload_n 3, 1) := by decide +kernel
theorem dX7_init_72 : decode cX7_init 72 = .ok (.aaload, 1) := by decide +kernel
theorem dX7_init_73 : decode cX7_init 73 = .ok (.astore 4, 2) := by decide +kernel
theorem dX7_init_75 : decode cX7_init 75 = .ok (.iconst 0, 1) := by decide +kernel
theorem dX7_init_76 : decode cX7_init 76 = .ok (.istore 5, 2) := by decide +kernel
theorem dX7_init_78 : decode cX7_init 78 = .ok (.iload 5, 2) := by decide +kernel
theorem dX7_init_80 : decode cX7_init 80 = .ok (.sipush 6144, 3) := by decide +kernel
theorem dX7_init_83 : decode cX7_init 83 = .ok (.if_icmp .ge 15, 3) := by decide +kernel
theorem dX7_init_86 : decode cX7_init 86 = .ok (.aload 4, 2) := by decide +kernel
theorem dX7_init_88 : decode cX7_init 88 = .ok (.iload 5, 2) := by decide +kernel
theorem dX7_init_90 : decode cX7_init 90 = .ok (.iconst (-1), 1) := by decide +kernel
theorem dX7_init_91 : decode cX7_init 91 = .ok (.iastore, 1) := by decide +kernel
theorem dX7_init_92 : decode cX7_init 92 = .ok (.iinc 5 1, 3) := by decide +kernel
theorem dX7_init_95 : decode cX7_init 95 = .ok (.goto (-17), 3) := by decide +kernel
theorem dX7_init_98 : decode cX7_init 98 = .ok (.iinc 3 1, 3) := by decide +kernel
theorem dX7_init_101 : decode cX7_init 101 = .ok (.goto (-36), 3) := by decide +kernel
theorem dX7_init_104 : decode cX7_init 104 = .ok (.return_, 1) := by decide +kernel
theorem dX7_thrown_0 : decode cX7_thrown 0 = .ok (.aload_n 0, 1) := by decide +kernel
theorem dX7_thrown_1 : decode cX7_thrown 1 = .ok (.getfield 27, 3) := by decide +kernel
theorem dX7_thrown_4 : decode cX7_thrown 4 = .ok (.ireturn, 1) := by decide +kernel
theorem dX7_isThrown_0 : decode cX7_isThrown 0 = .ok (.aload_n 0, 1) := by decide +kernel
theorem dX7_isThrown_1 : decode cX7_isThrown 1 = .ok (.iload_n 1, 1) := by decide +kernel
theorem dX7_isThrown_2 : decode cX7_isThrown 2 = .ok (.ifCond .eq 7, 3) := by decide +kernel
theorem dX7_isThrown_5 : decode cX7_isThrown 5 = .ok (.iconst 1, 1) := by decide +kernel
theorem dX7_isThrown_6 : decode cX7_isThrown 6 = .ok (.goto 12, 3) := by decide +kernel
theorem dX7_isThrown_9 : decode cX7_isThrown 9 = .ok (.iload_n 2, 1) := by decide +kernel
theorem dX7_isThrown_10 : decode cX7_isThrown 10 = .ok (.ifCond .eq 7, 3) := by decide +kernel
theorem dX7_isThrown_13 : decode cX7_isThrown 13 = .ok (.iconst 2, 1) := by decide +kernel
theorem dX7_isThrown_14 : decode cX7_isThrown 14 = .ok (.goto 4, 3) := by decide +kernel
theorem dX7_isThrown_17 : decode cX7_isThrown 17 = .ok (.iconst 0, 1) := by decide +kernel
theorem dX7_isThrown_18 : decode cX7_isThrown 18 = .ok (.putfield 27, 3) := by decide +kernel
theorem dX7_isThrown_21 : decode cX7_isThrown 21 = .ok (.aload_n 0, 1) := by decide +kernel
theorem dX7_isThrown_22 : decode cX7_isThrown 22 = .ok (.getfield 27, 3) := by decide +kernel
theorem dX7_isThrown_25 : decode cX7_isThrown 25 = .ok (.ifCond .le 7, 3) := by decide +kernel
theorem dX7_isThrown_28 : decode cX7_isThrown 28 = .ok (.iconst 1, 1) := by decide +kernel
theorem dX7_isThrown_29 : decode cX7_isThrown 29 = .ok (.goto 4, 3) := by decide +kernel
theorem dX7_isThrown_32 : decode cX7_isThrown 32 = .ok (.iconst 0, 1) := by decide +kernel
theorem dX7_isThrown_33 : decode cX7_isThrown 33 = .ok (.ireturn, 1) := by decide +kernel
theorem dX7_isNo_0 : decode cX7_isNo 0 = .ok (.iload_n 0, 1) := by decide +kernel
theorem dX7_isNo_1 : decode cX7_isNo 1 = .ok (.iload_n 1, 1) := by decide +kernel
theorem dX7_isNo_2 : decode cX7_isNo 2 = .ok (.if_icmp .lt 8, 3) := by decide +kernel
theorem dX7_isNo_5 : decode cX7_isNo 5 = .ok (.iload_n 0, 1) := by decide +kernel
theorem dX7_isNo_6 : decode cX7_isNo 6 = .ok (.iload_n 2, 1) := by decide +kernel
theorem dX7_isNo_7 : decode cX7_isNo 7 = .ok (.if_icmp .le 7, 3) := by decide +kernel
theorem dX7_isNo_10 : decode cX7_isNo 10 = .ok (.iconst 1, 1) := by decide +kernel
theorem dX7_isNo_11 : decode cX7_isNo 11 = .ok (.goto 4, 3) := by decide +kernel
theorem dX7_isNo_14 : decode cX7_isNo 14 = .ok (.iconst 0, 1) := by decide +kernel
theorem dX7_isNo_15 : decode cX7_isNo 15 = .ok (.ireturn, 1) := by decide +kernel
theorem dX7_isOut_0 : decode cX7_isOut 0 = .ok (.iload_n 0, 1) := by decide +kernel
theorem dX7_isOut_1 : decode cX7_isOut 1 = .ok (.iconst 0, 1) := by decide +kernel
theorem dX7_isOut_2 : decode cX7_isOut 2 = .ok (.iconst 5, 1) := by decide +kernel
theorem dX7_isOut_3 : decode cX7_isOut 3 = .ok (.invokestatic 31, 3) := by decide +kernel
theorem dX7_isOut_6 : decode cX7_isOut 6 = .ok (.ifCond .ne 23, 3) := by decide +kernel
theorem dX7_isOut_9 : decode cX7_isOut 9 = .ok (.iload_n 1, 1) := by decide +kernel
theorem dX7_isOut_10 : decode cX7_isOut 10 = .ok (.iconst 0, 1) := by decide +kernel
theorem dX7_isOut_11 : decode cX7_isOut 11 = .ok (.bipush 20, 2) := by decide +kernel
theorem dX7_isOut_13 : decode cX7_isOut 13 = .ok (.invokestatic 31, 3) := by decide +kernel
theorem dX7_isOut_16 : decode cX7_isOut 16 = .ok (.ifCond .ne 13, 3) := by decide +kernel
theorem dX7_isOut_19 : decode cX7_isOut 19 = .ok (.iload_n 2, 1) := by decide +kernel
theorem dX7_isOut_20 : decode cX7_isOut 20 = .ok (.iconst 0, 1) := by decide +kernel
theorem dX7_isOut_21 : decode cX7_isOut 21 = .ok (.bipush 20, 2) := by decide +kernel
