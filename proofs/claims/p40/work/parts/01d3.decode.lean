theorem dX7_pour_85 : decode cX7_pour 85 = .ok (.iload_n 1, 1) := by decide +kernel
theorem dX7_pour_86 : decode cX7_pour 86 = .ok (.aaload, 1) := by decide +kernel
theorem dX7_pour_87 : decode cX7_pour 87 = .ok (.iload 4, 2) := by decide +kernel
theorem dX7_pour_89 : decode cX7_pour 89 = .ok (.iaload, 1) := by decide +kernel
theorem dX7_pour_90 : decode cX7_pour 90 = .ok (.iastore, 1) := by decide +kernel
theorem dX7_pour_91 : decode cX7_pour 91 = .ok (.iinc 4 1, 3) := by decide +kernel
theorem dX7_pour_94 : decode cX7_pour 94 = .ok (.goto (-41), 3) := by decide +kernel
theorem dX7_pour_97 : decode cX7_pour 97 = .ok (.aload_n 0, 1) := by decide +kernel
theorem dX7_pour_98 : decode cX7_pour 98 = .ok (.aload_n 0, 1) := by decide +kernel
theorem dX7_pour_99 : decode cX7_pour 99 = .ok (.iload_n 2, 1) := by decide +kernel
theorem dX7_pour_100 : decode cX7_pour 100 = .ok (.iconst 0, 1) := by decide +kernel
theorem dX7_pour_101 : decode cX7_pour 101 = .ok (.invokevirtual 153, 3) := by decide +kernel
theorem dX7_pour_104 : decode cX7_pour 104 = .ok (.iload_n 3, 1) := by decide +kernel
theorem dX7_pour_105 : decode cX7_pour 105 = .ok (.isub, 1) := by decide +kernel
theorem dX7_pour_106 : decode cX7_pour 106 = .ok (.invokevirtual 117, 3) := by decide +kernel
theorem dX7_pour_109 : decode cX7_pour 109 = .ok (.ireturn, 1) := by decide +kernel
theorem dX7_isKept_0 : decode cX7_isKept 0 = .ok (.aload_n 0, 1) := by decide +kernel
theorem dX7_isKept_1 : decode cX7_isKept 1 = .ok (.iload_n 1, 1) := by decide +kernel
theorem dX7_isKept_2 : decode cX7_isKept 2 = .ok (.iconst 0, 1) := by decide +kernel
theorem dX7_isKept_3 : decode cX7_isKept 3 = .ok (.iconst 2, 1) := by decide +kernel
theorem dX7_isKept_4 : decode cX7_isKept 4 = .ok (.invokestatic 31, 3) := by decide +kernel
theorem dX7_isKept_7 : decode cX7_isKept 7 = .ok (.iload_n 2, 1) := by decide +kernel
theorem dX7_isKept_8 : decode cX7_isKept 8 = .ok (.iload_n 3, 1) := by decide +kernel
theorem dX7_isKept_9 : decode cX7_isKept 9 = .ok (.iload 4, 2) := by decide +kernel
theorem dX7_isKept_11 : decode cX7_isKept 11 = .ok (.invokestatic 107, 3) := by decide +kernel
theorem dX7_isKept_14 : decode cX7_isKept 14 = .ok (.ifCond .ne 13, 3) := by decide +kernel
theorem dX7_isKept_17 : decode cX7_isKept 17 = .ok (.iload 5, 2) := by decide +kernel
theorem dX7_isKept_19 : decode cX7_isKept 19 = .ok (.iconst 0, 1) := by decide +kernel
theorem dX7_isKept_20 : decode cX7_isKept 20 = .ok (.iconst 2, 1) := by decide +kernel
theorem dX7_isKept_21 : decode cX7_isKept 21 = .ok (.invokestatic 31, 3) := by decide +kernel
theorem dX7_isKept_24 : decode cX7_isKept 24 = .ok (.ifCond .eq 7, 3) := by decide +kernel
theorem dX7_isKept_27 : decode cX7_isKept 27 = .ok (.iconst 1, 1) := by decide +kernel
theorem dX7_isKept_28 : decode cX7_isKept 28 = .ok (.goto 4, 3) := by decide +kernel
theorem dX7_isKept_31 : decode cX7_isKept 31 = .ok (.iconst 0, 1) := by decide +kernel
theorem dX7_isKept_32 : decode cX7_isKept 32 = .ok (.invokevirtual 110, 3) := by decide +kernel
theorem dX7_isKept_35 : decode cX7_isKept 35 = .ok (.ifCond .ne 19, 3) := by decide +kernel
theorem dX7_isKept_38 : decode cX7_isKept 38 = .ok (.aload_n 0, 1) := by decide +kernel
theorem dX7_isKept_39 : decode cX7_isKept 39 = .ok (.iload_n 1, 1) := by decide +kernel
theorem dX7_isKept_40 : decode cX7_isKept 40 = .ok (.iload_n 2, 1) := by decide +kernel
theorem dX7_isKept_41 : decode cX7_isKept 41 = .ok (.iload_n 3, 1) := by decide +kernel
theorem dX7_isKept_42 : decode cX7_isKept 42 = .ok (.iload 4, 2) := by decide +kernel
theorem dX7_isKept_44 : decode cX7_isKept 44 = .ok (.invokevirtual 131, 3) := by decide +kernel
theorem dX7_isKept_47 : decode cX7_isKept 47 = .ok (.ifCond .lt 7, 3) := by decide +kernel
theorem dX7_isKept_50 : decode cX7_isKept 50 = .ok (.iconst 1, 1) := by decide +kernel
theorem dX7_isKept_51 : decode cX7_isKept 51 = .ok (.goto 4, 3) := by decide +kernel
theorem dX7_isKept_54 : decode cX7_isKept 54 = .ok (.iconst 0, 1) := by decide +kernel
theorem dX7_isKept_55 : decode cX7_isKept 55 = .ok (.ireturn, 1) := by decide +kernel
theorem dX7_worthOr_0 : decode cX7_worthOr 0 = .ok (.aload_n 0, 1) := by decide +kernel
theorem dX7_worthOr_1 : decode cX7_worthOr 1 = .ok (.iload_n 1, 1) := by decide +kernel
theorem dX7_worthOr_2 : decode cX7_worthOr 2 = .ok (.iconst 0, 1) := by decide +kernel
theorem dX7_worthOr_3 : decode cX7_worthOr 3 = .ok (.iconst 2, 1) := by decide +kernel
theorem dX7_worthOr_4 : decode cX7_worthOr 4 = .ok (.invokestatic 31, 3) := by decide +kernel
theorem dX7_worthOr_7 : decode cX7_worthOr 7 = .ok (.iload_n 2, 1) := by decide +kernel
theorem dX7_worthOr_8 : decode cX7_worthOr 8 = .ok (.iload_n 3, 1) := by decide +kernel
theorem dX7_worthOr_9 : decode cX7_worthOr 9 = .ok (.iload 4, 2) := by decide +kernel
theorem dX7_worthOr_11 : decode cX7_worthOr 11 = .ok (.invokestatic 107, 3) := by decide +kernel
theorem dX7_worthOr_14 : decode cX7_worthOr 14 = .ok (.invokevirtual 110, 3) := by decide +kernel
theorem dX7_worthOr_17 : decode cX7_worthOr 17 = .ok (.ifCond .eq 5, 3) := by decide +kernel
theorem dX7_worthOr_20 : decode cX7_worthOr 20 = .ok (.iconst 0, 1) := by decide +kernel
theorem dX7_worthOr_21 : decode cX7_worthOr 21 = .ok (.ireturn, 1) := by decide +kernel
theorem dX7_worthOr_22 : decode cX7_worthOr 22 = .ok (.aload_n 0, 1) := by decide +kernel
theorem dX7_worthOr_23 : decode cX7_worthOr 23 = .ok (.iload_n 1, 1) := by decide +kernel
theorem dX7_worthOr_24 : decode cX7_worthOr 24 = .ok (.iload_n 2, 1) := by decide +kernel
theorem dX7_worthOr_25 : decode cX7_worthOr 25 = .ok (.iload_n 3, 1) := by decide +kernel
theorem dX7_worthOr_26 : decode cX7_worthOr 26 = .ok (.iload 4, 2) := by decide +kernel
theorem dX7_worthOr_28 : decode cX7_worthOr 28 = .ok (.invokevirtual 131, 3) := by decide +kernel
theorem dX7_worthOr_31 : decode cX7_worthOr 31 = .ok (.istore 6, 2) := by decide +kernel
theorem dX7_worthOr_33 : decode cX7_worthOr 33 = .ok (.iload 6, 2) := by decide +kernel
theorem dX7_worthOr_35 : decode cX7_worthOr 35 = .ok (.ifCond .ge 8, 3) := by decide +kernel
theorem dX7_worthOr_38 : decode cX7_worthOr 38 = .ok (.iload 5, 2) := by decide +kernel
theorem dX7_worthOr_40 : decode cX7_worthOr 40 = .ok (.goto 5, 3) := by decide +kernel
theorem dX7_worthOr_43 : decode cX7_worthOr 43 = .ok (.iload 6, 2) := by decide +kernel
theorem dX7_worthOr_45 : decode cX7_worthOr 45 = .ok (.ireturn, 1) := by decide +kernel
theorem dX7_confirm_0 : decode cX7_confirm 0 = .ok (.aload_n 0, 1) := by decide +kernel
theorem dX7_confirm_1 : decode cX7_confirm 1 = .ok (.iload_n 1, 1) := by decide +kernel
theorem dX7_confirm_2 : decode cX7_confirm 2 = .ok (.iconst 0, 1) := by decide +kernel
theorem dX7_confirm_3 : decode cX7_confirm 3 = .ok (.iconst 2, 1) := by decide +kernel
theorem dX7_confirm_4 : decode cX7_confirm 4 = .ok (.invokestatic 31, 3) := by decide +kernel
theorem dX7_confirm_7 : decode cX7_confirm 7 = .ok (.iload_n 2, 1) := by decide +kernel
theorem dX7_confirm_8 : decode cX7_confirm 8 = .ok (.iload_n 3, 1) := by decide +kernel
theorem dX7_confirm_9 : decode cX7_confirm 9 = .ok (.iload 4, 2) := by decide +kernel
theorem dX7_confirm_11 : decode cX7_confirm 11 = .ok (.invokestatic 107, 3) := by decide +kernel
theorem dX7_confirm_14 : decode cX7_confirm 14 = .ok (.invokevirtual 110, 3) := by decide +kernel
theorem dX7_confirm_17 : decode cX7_confirm 17 = .ok (.ifCond .eq 5, 3) := by decide +kernel
theorem dX7_confirm_20 : decode cX7_confirm 20 = .ok (.iconst 0, 1) := by decide +kernel
theorem dX7_confirm_21 : decode cX7_confirm 21 = .ok (.ireturn, 1) := by decide +kernel
theorem dX7_confirm_22 : decode cX7_confirm 22 = .ok (.aload_n 0, 1) := by decide +kernel
theorem dX7_confirm_23 : decode cX7_confirm 23 = .ok (.iload_n 1, 1) := by decide +kernel
theorem dX7_confirm_24 : decode cX7_confirm 24 = .ok (.iload_n 2, 1) := by decide +kernel
theorem dX7_confirm_25 : decode cX7_confirm 25 = .ok (.iload_n 3, 1) := by decide +kernel
theorem dX7_confirm_26 : decode cX7_confirm 26 = .ok (.iload 4, 2) := by decide +kernel
theorem dX7_confirm_28 : decode cX7_confirm 28 = .ok (.invokevirtual 131, 3) := by decide +kernel
theorem dX7_confirm_31 : decode cX7_confirm 31 = .ok (.istore 6, 2) := by decide +kernel
theorem dX7_confirm_33 : decode cX7_confirm 33 = .ok (.iload 6, 2) := by decide +kernel
theorem dX7_confirm_35 : decode cX7_confirm 35 = .ok (.ifCond .lt 14, 3) := by decide +kernel
theorem dX7_confirm_38 : decode cX7_confirm 38 = .ok (.iload 6, 2) := by decide +kernel
theorem dX7_confirm_40 : decode cX7_confirm 40 = .ok (.iload 5, 2) := by decide +kernel
theorem dX7_confirm_42 : decode cX7_confirm 42 = .ok (.if_icmp .ne 7, 3) := by decide +kernel
theorem dX7_confirm_45 : decode cX7_confirm 45 = .ok (.iconst 1, 1) := by decide +kernel
theorem dX7_confirm_46 : decode cX7_confirm 46 = .ok (.goto 4, 3) := by decide +kernel
theorem dX7_confirm_49 : decode cX7_confirm 49 = .ok (.iconst 0, 1) := by decide +kernel
theorem dX7_confirm_50 : decode cX7_confirm 50 = .ok (.ireturn, 1) := by decide +kernel
theorem dX7_told__0 : decode cX7_told_ 0 = .ok (.iconst 0, 1) := by decide +kernel
theorem dX7_told__1 : decode cX7_told_ 1 = .ok (.istore_n 3, 1) := by decide +kernel
theorem dX7_told__2 : decode cX7_told_ 2 = .ok (.iconst 0, 1) := by decide +kernel
theorem dX7_told__3 : decode cX7_told_ 3 = .ok (.istore 4, 2) := by decide +kernel
theorem dX7_told__5 : decode cX7_told_ 5 = .ok (.iload 4, 2) := by decide +kernel
theorem dX7_told__7 : decode cX7_told_ 7 = .ok (.sipush 6144, 3) := by decide +kernel
theorem dX7_told__10 : decode cX7_told_ 10 = .ok (.if_icmp .ge 52, 3) := by decide +kernel
theorem dX7_told__13 : decode cX7_told_ 13 = .ok (.aload_n 0, 1) := by decide +kernel
theorem dX7_told__14 : decode cX7_told_ 14 = .ok (.getfield 11, 3) := by decide +kernel
theorem dX7_told__17 : decode cX7_told_ 17 = .ok (.iload_n 1, 1) := by decide +kernel
theorem dX7_told__18 : decode cX7_told_ 18 = .ok (.aaload, 1) := by decide +kernel
theorem dX7_told__19 : decode cX7_told_ 19 = .ok (.iload 4, 2) := by decide +kernel
theorem dX7_told__21 : decode cX7_told_ 21 = .ok (.iaload, 1) := by decide +kernel
theorem dX7_told__22 : decode cX7_told_ 22 = .ok (.istore 5, 2) := by decide +kernel
theorem dX7_told__24 : decode cX7_told_ 24 = .ok (.iload 5, 2) := by decide +kernel
theorem dX7_told__26 : decode cX7_told_ 26 = .ok (.ifCond .lt 30, 3) := by decide +kernel
theorem dX7_told__29 : decode cX7_told_ 29 = .ok (.iload_n 3, 1) := by decide +kernel
theorem dX7_told__30 : decode cX7_told_ 30 = .ok (.iload_n 2, 1) := by decide +kernel
theorem dX7_told__31 : decode cX7_told_ 31 = .ok (.iconst 1, 1) := by decide +kernel
theorem dX7_told__32 : decode cX7_told_ 32 = .ok (.if_icmp .ne 11, 3) := by decide +kernel
theorem dX7_told__35 : decode cX7_told_ 35 = .ok (.iload 4, 2) := by decide +kernel
theorem dX7_told__37 : decode cX7_told_ 37 = .ok (.iload 5, 2) := by decide +kernel
theorem dX7_told__39 : decode cX7_told_ 39 = .ok (.ixor, 1) := by decide +kernel
theorem dX7_told__40 : decode cX7_told_ 40 = .ok (.goto 14, 3) := by decide +kernel
theorem dX7_told__43 : decode cX7_told_ 43 = .ok (.iload_n 2, 1) := by decide +kernel
theorem dX7_told__44 : decode cX7_told_ 44 = .ok (.iconst 2, 1) := by decide +kernel
theorem dX7_told__45 : decode cX7_told_ 45 = .ok (.if_icmp .ne 8, 3) := by decide +kernel
theorem dX7_told__48 : decode cX7_told_ 48 = .ok (.iload 5, 2) := by decide +kernel
theorem dX7_told__50 : decode cX7_told_ 50 = .ok (.goto 4, 3) := by decide +kernel
theorem dX7_told__53 : decode cX7_told_ 53 = .ok (.iconst 1, 1) := by decide +kernel
theorem dX7_told__54 : decode cX7_told_ 54 = .ok (.iadd, 1) := by decide +kernel
theorem dX7_told__55 : decode cX7_told_ 55 = .ok (.istore_n 3, 1) := by decide +kernel
theorem dX7_told__56 : decode cX7_told_ 56 = .ok (.iinc 4 1, 3) := by decide +kernel
theorem dX7_told__59 : decode cX7_told_ 59 = .ok (.goto (-54), 3) := by decide +kernel
theorem dX7_told__62 : decode cX7_told_ 62 = .ok (.iload_n 2, 1) := by decide +kernel
theorem dX7_told__63 : decode cX7_told_ 63 = .ok (.iconst 3, 1) := by decide +kernel
theorem dX7_told__64 : decode cX7_told_ 64 = .ok (.if_icmp .ne 18, 3) := by decide +kernel
theorem dX7_told__67 : decode cX7_told_ 67 = .ok (.iload_n 3, 1) := by decide +kernel
theorem dX7_told__68 : decode cX7_told_ 68 = .ok (.ifCond .ne 7, 3) := by decide +kernel
theorem dX7_told__71 : decode cX7_told_ 71 = .ok (.iconst 1, 1) := by decide +kernel
theorem dX7_told__72 : decode cX7_told_ 72 = .ok (.goto 4, 3) := by decide +kernel
theorem dX7_told__75 : decode cX7_told_ 75 = .ok (.iconst 0, 1) := by decide +kernel
theorem dX7_told__76 : decode cX7_told_ 76 = .ok (.invokestatic 43, 3) := by decide +kernel
theorem dX7_told__79 : decode cX7_told_ 79 = .ok (.goto 4, 3) := by decide +kernel
theorem dX7_told__82 : decode cX7_told_ 82 = .ok (.iload_n 3, 1) := by decide +kernel
theorem dX7_told__83 : decode cX7_told_ 83 = .ok (.ireturn, 1) := by decide +kernel
theorem dX7_about_0 : decode cX7_about 0 = .ok (.aload_n 0, 1) := by decide +kernel
theorem dX7_about_1 : decode cX7_about 1 = .ok (.iload_n 1, 1) := by decide +kernel
theorem dX7_about_2 : decode cX7_about 2 = .ok (.iconst 0, 1) := by decide +kernel
theorem dX7_about_3 : decode cX7_about 3 = .ok (.iconst 2, 1) := by decide +kernel
theorem dX7_about_4 : decode cX7_about 4 = .ok (.invokestatic 31, 3) := by decide +kernel
theorem dX7_about_7 : decode cX7_about 7 = .ok (.iload_n 2, 1) := by decide +kernel
theorem dX7_about_8 : decode cX7_about 8 = .ok (.iconst 0, 1) := by decide +kernel
theorem dX7_about_9 : decode cX7_about 9 = .ok (.iconst 3, 1) := by decide +kernel
theorem dX7_about_10 : decode cX7_about 10 = .ok (.invokestatic 31, 3) := by decide +kernel
theorem dX7_about_13 : decode cX7_about 13 = .ok (.invokevirtual 110, 3) := by decide +kernel
theorem dX7_about_16 : decode cX7_about 16 = .ok (.ifCond .eq 7, 3) := by decide +kernel
theorem dX7_about_19 : decode cX7_about 19 = .ok (.iconst 0, 1) := by decide +kernel
theorem dX7_about_20 : decode cX7_about 20 = .ok (.goto 9, 3) := by decide +kernel
theorem dX7_about_23 : decode cX7_about 23 = .ok (.aload_n 0, 1) := by decide +kernel
theorem dX7_about_24 : decode cX7_about 24 = .ok (.iload_n 1, 1) := by decide +kernel
theorem dX7_about_25 : decode cX7_about 25 = .ok (.iload_n 2, 1) := by decide +kernel
theorem dX7_about_26 : decode cX7_about 26 = .ok (.invokevirtual 153, 3) := by decide +kernel
theorem dX7_about_29 : decode cX7_about 29 = .ok (.ireturn, 1) := by decide +kernel
theorem dX7_has_0 : decode cX7_has 0 = .ok (.aload_n 0, 1) := by decide +kernel
theorem dX7_has_1 : decode cX7_has 1 = .ok (.iload_n 1, 1) := by decide +kernel
theorem dX7_has_2 : decode cX7_has 2 = .ok (.iconst 0, 1) := by decide +kernel
theorem dX7_has_3 : decode cX7_has 3 = .ok (.iconst 2, 1) := by decide +kernel
theorem dX7_has_4 : decode cX7_has 4 = .ok (.invokestatic 31, 3) := by decide +kernel
theorem dX7_has_7 : decode cX7_has 7 = .ok (.iconst 0, 1) := by decide +kernel
theorem dX7_has_8 : decode cX7_has 8 = .ok (.invokevirtual 110, 3) := by decide +kernel
theorem dX7_has_11 : decode cX7_has 11 = .ok (.ifCond .ne 17, 3) := by decide +kernel
theorem dX7_has_14 : decode cX7_has 14 = .ok (.aload_n 0, 1) := by decide +kernel
theorem dX7_has_15 : decode cX7_has 15 = .ok (.iload_n 1, 1) := by decide +kernel
theorem dX7_has_16 : decode cX7_has 16 = .ok (.iconst 3, 1) := by decide +kernel
theorem dX7_has_17 : decode cX7_has 17 = .ok (.iload_n 2, 1) := by decide +kernel
theorem dX7_has_18 : decode cX7_has 18 = .ok (.invokevirtual 150, 3) := by decide +kernel
theorem dX7_has_21 : decode cX7_has 21 = .ok (.ifCond .le 7, 3) := by decide +kernel
theorem dX7_has_24 : decode cX7_has 24 = .ok (.iconst 1, 1) := by decide +kernel
theorem dX7_has_25 : decode cX7_has 25 = .ok (.goto 4, 3) := by decide +kernel
theorem dX7_has_28 : decode cX7_has 28 = .ok (.iconst 0, 1) := by decide +kernel
theorem dX7_has_29 : decode cX7_has 29 = .ok (.ireturn, 1) := by decide +kernel
theorem dX7_count_0 : decode cX7_count 0 = .ok (.aload_n 0, 1) := by decide +kernel
theorem dX7_count_1 : decode cX7_count 1 = .ok (.iload_n 1, 1) := by decide +kernel
theorem dX7_count_2 : decode cX7_count 2 = .ok (.iconst 0, 1) := by decide +kernel
theorem dX7_count_3 : decode cX7_count 3 = .ok (.iconst 2, 1) := by decide +kernel
theorem dX7_count_4 : decode cX7_count 4 = .ok (.invokestatic 31, 3) := by decide +kernel
theorem dX7_count_7 : decode cX7_count 7 = .ok (.iload_n 2, 1) := by decide +kernel
theorem dX7_count_8 : decode cX7_count 8 = .ok (.iconst 0, 1) := by decide +kernel
theorem dX7_count_9 : decode cX7_count 9 = .ok (.iconst 3, 1) := by decide +kernel
theorem dX7_count_10 : decode cX7_count 10 = .ok (.invokestatic 31, 3) := by decide +kernel
theorem dX7_count_13 : decode cX7_count 13 = .ok (.invokevirtual 110, 3) := by decide +kernel
theorem dX7_count_16 : decode cX7_count 16 = .ok (.ifCond .eq 7, 3) := by decide +kernel
theorem dX7_count_19 : decode cX7_count 19 = .ok (.iconst 0, 1) := by decide +kernel
theorem dX7_count_20 : decode cX7_count 20 = .ok (.goto 10, 3) := by decide +kernel
theorem dX7_count_23 : decode cX7_count 23 = .ok (.aload_n 0, 1) := by decide +kernel
theorem dX7_count_24 : decode cX7_count 24 = .ok (.iload_n 1, 1) := by decide +kernel
theorem dX7_count_25 : decode cX7_count 25 = .ok (.iload_n 2, 1) := by decide +kernel
theorem dX7_count_26 : decode cX7_count 26 = .ok (.iload_n 3, 1) := by decide +kernel
theorem dX7_count_27 : decode cX7_count 27 = .ok (.invokevirtual 150, 3) := by decide +kernel
theorem dX7_count_30 : decode cX7_count 30 = .ok (.ireturn, 1) := by decide +kernel
theorem dX7_isSame_0 : decode cX7_isSame 0 = .ok (.aload_n 0, 1) := by decide +kernel
theorem dX7_isSame_1 : decode cX7_isSame 1 = .ok (.iload_n 1, 1) := by decide +kernel
theorem dX7_isSame_2 : decode cX7_isSame 2 = .ok (.iconst 0, 1) := by decide +kernel
theorem dX7_isSame_3 : decode cX7_isSame 3 = .ok (.iconst 2, 1) := by decide +kernel
theorem dX7_isSame_4 : decode cX7_isSame 4 = .ok (.invokestatic 31, 3) := by decide +kernel
theorem dX7_isSame_7 : decode cX7_isSame 7 = .ok (.ifCond .ne 12, 3) := by decide +kernel
theorem dX7_isSame_10 : decode cX7_isSame 10 = .ok (.iload_n 2, 1) := by decide +kernel
theorem dX7_isSame_11 : decode cX7_isSame 11 = .ok (.iconst 0, 1) := by decide +kernel
theorem dX7_isSame_12 : decode cX7_isSame 12 = .ok (.iconst 2, 1) := by decide +kernel
theorem dX7_isSame_13 : decode cX7_isSame 13 = .ok (.invokestatic 31, 3) := by decide +kernel
theorem dX7_isSame_16 : decode cX7_isSame 16 = .ok (.ifCond .eq 7, 3) := by decide +kernel
theorem dX7_isSame_19 : decode cX7_isSame 19 = .ok (.iconst 1, 1) := by decide +kernel
theorem dX7_isSame_20 : decode cX7_isSame 20 = .ok (.goto 4, 3) := by decide +kernel
theorem dX7_isSame_23 : decode cX7_isSame 23 = .ok (.iconst 0, 1) := by decide +kernel
theorem dX7_isSame_24 : decode cX7_isSame 24 = .ok (.iconst 0, 1) := by decide +kernel
theorem dX7_isSame_25 : decode cX7_isSame 25 = .ok (.invokevirtual 110, 3) := by decide +kernel
theorem dX7_isSame_28 : decode cX7_isSame 28 = .ok (.ifCond .eq 5, 3) := by decide +kernel
theorem dX7_isSame_31 : decode cX7_isSame 31 = .ok (.iconst 0, 1) := by decide +kernel
theorem dX7_isSame_32 : decode cX7_isSame 32 = .ok (.ireturn, 1) := by decide +kernel
theorem dX7_isSame_33 : decode cX7_isSame 33 = .ok (.iconst 1, 1) := by decide +kernel
theorem dX7_isSame_34 : decode cX7_isSame 34 = .ok (.istore_n 3, 1) := by decide +kernel
theorem dX7_isSame_35 : decode cX7_isSame 35 = .ok (.iconst 0, 1) := by decide +kernel
theorem dX7_isSame_36 : decode cX7_isSame 36 = .ok (.istore 4, 2) := by decide +kernel
theorem dX7_isSame_38 : decode cX7_isSame 38 = .ok (.iload 4, 2) := by decide +kernel
theorem dX7_isSame_40 : decode cX7_isSame 40 = .ok (.sipush 6144, 3) := by decide +kernel
theorem dX7_isSame_43 : decode cX7_isSame 43 = .ok (.if_icmp .ge 38, 3) := by decide +kernel
theorem dX7_isSame_46 : decode cX7_isSame 46 = .ok (.iload_n 3, 1) := by decide +kernel
theorem dX7_isSame_47 : decode cX7_isSame 47 = .ok (.aload_n 0, 1) := by decide +kernel
theorem dX7_isSame_48 : decode cX7_isSame 48 = .ok (.getfield 11, 3) := by decide +kernel
theorem dX7_isSame_51 : decode cX7_isSame 51 = .ok (.iload_n 1, 1) := by decide +kernel
theorem dX7_isSame_52 : decode cX7_isSame 52 = .ok (.aaload, 1) := by decide +kernel
theorem dX7_isSame_53 : decode cX7_isSame 53 = .ok (.iload 4, 2) := by decide +kernel
theorem dX7_isSame_55 : decode cX7_isSame 55 = .ok (.iaload, 1) := by decide +kernel
theorem dX7_isSame_56 : decode cX7_isSame 56 = .ok (.aload_n 0, 1) := by decide +kernel
theorem dX7_isSame_57 : decode cX7_isSame 57 = .ok (.getfield 11, 3) := by decide +kernel
theorem dX7_isSame_60 : decode cX7_isSame 60 = .ok (.iload_n 2, 1) := by decide +kernel
theorem dX7_isSame_61 : decode cX7_isSame 61 = .ok (.aaload, 1) := by decide +kernel
theorem dX7_isSame_62 : decode cX7_isSame 62 = .ok (.iload 4, 2) := by decide +kernel
theorem dX7_isSame_64 : decode cX7_isSame 64 = .ok (.iaload, 1) := by decide +kernel
theorem dX7_isSame_65 : decode cX7_isSame 65 = .ok (.if_icmp .ne 7, 3) := by decide +kernel
theorem dX7_isSame_68 : decode cX7_isSame 68 = .ok (.iconst 1, 1) := by decide +kernel
theorem dX7_isSame_69 : decode cX7_isSame 69 = .ok (.goto 4, 3) := by decide +kernel
theorem dX7_isSame_72 : decode cX7_isSame 72 = .ok (.iconst 0, 1) := by decide +kernel
theorem dX7_isSame_73 : decode cX7_isSame 73 = .ok (.iand, 1) := by decide +kernel
theorem dX7_isSame_74 : decode cX7_isSame 74 = .ok (.istore_n 3, 1) := by decide +kernel
theorem dX7_isSame_75 : decode cX7_isSame 75 = .ok (.iinc 4 1, 3) := by decide +kernel
theorem dX7_isSame_78 : decode cX7_isSame 78 = .ok (.goto (-40), 3) := by decide +kernel
theorem dX7_isSame_81 : decode cX7_isSame 81 = .ok (.iload_n 3, 1) := by decide +kernel
theorem dX7_isSame_82 : decode cX7_isSame 82 = .ok (.ireturn, 1) := by decide +kernel
theorem dX7_walk_0 : decode cX7_walk 0 = .ok (.aload_n 0, 1) := by decide +kernel
theorem dX7_walk_1 : decode cX7_walk 1 = .ok (.iload_n 1, 1) := by decide +kernel
theorem dX7_walk_2 : decode cX7_walk 2 = .ok (.iconst 0, 1) := by decide +kernel
theorem dX7_walk_3 : decode cX7_walk 3 = .ok (.bipush 7, 2) := by decide +kernel
theorem dX7_walk_5 : decode cX7_walk 5 = .ok (.invokestatic 31, 3) := by decide +kernel
theorem dX7_walk_8 : decode cX7_walk 8 = .ok (.ifCond .ne 23, 3) := by decide +kernel
theorem dX7_walk_11 : decode cX7_walk 11 = .ok (.iload_n 2, 1) := by decide +kernel
theorem dX7_walk_12 : decode cX7_walk 12 = .ok (.iconst 0, 1) := by decide +kernel
theorem dX7_walk_13 : decode cX7_walk 13 = .ok (.bipush 20, 2) := by decide +kernel
theorem dX7_walk_15 : decode cX7_walk 15 = .ok (.invokestatic 31, 3) := by decide +kernel
theorem dX7_walk_18 : decode cX7_walk 18 = .ok (.ifCond .ne 13, 3) := by decide +kernel
theorem dX7_walk_21 : decode cX7_walk 21 = .ok (.iload_n 3, 1) := by decide +kernel
theorem dX7_walk_22 : decode cX7_walk 22 = .ok (.iconst 0, 1) := by decide +kernel
theorem dX7_walk_23 : decode cX7_walk 23 = .ok (.bipush 20, 2) := by decide +kernel
theorem dX7_walk_25 : decode cX7_walk 25 = .ok (.invokestatic 31, 3) := by decide +kernel
theorem dX7_walk_28 : decode cX7_walk 28 = .ok (.ifCond .eq 7, 3) := by decide +kernel
theorem dX7_walk_31 : decode cX7_walk 31 = .ok (.iconst 1, 1) := by decide +kernel
theorem dX7_walk_32 : decode cX7_walk 32 = .ok (.goto 4, 3) := by decide +kernel
theorem dX7_walk_35 : decode cX7_walk 35 = .ok (.iconst 0, 1) := by decide +kernel
theorem dX7_walk_36 : decode cX7_walk 36 = .ok (.iconst 0, 1) := by decide +kernel
theorem dX7_walk_37 : decode cX7_walk 37 = .ok (.invokevirtual 110, 3) := by decide +kernel
theorem dX7_walk_40 : decode cX7_walk 40 = .ok (.ifCond .eq 7, 3) := by decide +kernel
theorem dX7_walk_43 : decode cX7_walk 43 = .ok (.iconst 0, 1) := by decide +kernel
theorem dX7_walk_44 : decode cX7_walk 44 = .ok (.goto 9, 3) := by decide +kernel
theorem dX7_walk_47 : decode cX7_walk 47 = .ok (.iload_n 1, 1) := by decide +kernel
theorem dX7_walk_48 : decode cX7_walk 48 = .ok (.iload_n 2, 1) := by decide +kernel
theorem dX7_walk_49 : decode cX7_walk 49 = .ok (.iload_n 3, 1) := by decide +kernel
theorem dX7_walk_50 : decode cX7_walk 50 = .ok (.invokestatic 134, 3) := by decide +kernel
theorem dX7_walk_53 : decode cX7_walk 53 = .ok (.ireturn, 1) := by decide +kernel
theorem dX7_product_0 : decode cX7_product 0 = .ok (.aload_n 0, 1) := by decide +kernel
theorem dX7_product_1 : decode cX7_product 1 = .ok (.iload_n 1, 1) := by decide +kernel
theorem dX7_product_2 : decode cX7_product 2 = .ok (.iconst 0, 1) := by decide +kernel
theorem dX7_product_3 : decode cX7_product 3 = .ok (.bipush 7, 2) := by decide +kernel
theorem dX7_product_5 : decode cX7_product 5 = .ok (.invokestatic 31, 3) := by decide +kernel
theorem dX7_product_8 : decode cX7_product 8 = .ok (.ifCond .ne 23, 3) := by decide +kernel
theorem dX7_product_11 : decode cX7_product 11 = .ok (.iload_n 2, 1) := by decide +kernel
theorem dX7_product_12 : decode cX7_product 12 = .ok (.iconst 0, 1) := by decide +kernel
theorem dX7_product_13 : decode cX7_product 13 = .ok (.bipush 20, 2) := by decide +kernel
theorem dX7_product_15 : decode cX7_product 15 = .ok (.invokestatic 31, 3) := by decide +kernel
theorem dX7_product_18 : decode cX7_product 18 = .ok (.ifCond .ne 13, 3) := by decide +kernel
theorem dX7_product_21 : decode cX7_product 21 = .ok (.iload_n 3, 1) := by decide +kernel
theorem dX7_product_22 : decode cX7_product 22 = .ok (.iconst 0, 1) := by decide +kernel
theorem dX7_product_23 : decode cX7_product 23 = .ok (.bipush 20, 2) := by decide +kernel
theorem dX7_product_25 : decode cX7_product 25 = .ok (.invokestatic 31, 3) := by decide +kernel
theorem dX7_product_28 : decode cX7_product 28 = .ok (.ifCond .eq 7, 3) := by decide +kernel
theorem dX7_product_31 : decode cX7_product 31 = .ok (.iconst 1, 1) := by decide +kernel
theorem dX7_product_32 : decode cX7_product 32 = .ok (.goto 4, 3) := by decide +kernel
theorem dX7_product_35 : decode cX7_product 35 = .ok (.iconst 0, 1) := by decide +kernel
theorem dX7_product_36 : decode cX7_product 36 = .ok (.iconst 0, 1) := by decide +kernel
theorem dX7_product_37 : decode cX7_product 37 = .ok (.invokevirtual 110, 3) := by decide +kernel
theorem dX7_product_40 : decode cX7_product 40 = .ok (.ifCond .eq 7, 3) := by decide +kernel
theorem dX7_product_43 : decode cX7_product 43 = .ok (.iconst 0, 1) := by decide +kernel
theorem dX7_product_44 : decode cX7_product 44 = .ok (.goto 9, 3) := by decide +kernel
theorem dX7_product_47 : decode cX7_product 47 = .ok (.iload_n 1, 1) := by decide +kernel
theorem dX7_product_48 : decode cX7_product 48 = .ok (.iload_n 2, 1) := by decide +kernel
theorem dX7_product_49 : decode cX7_product 49 = .ok (.iload_n 3, 1) := by decide +kernel
theorem dX7_product_50 : decode cX7_product 50 = .ok (.invokestatic 128, 3) := by decide +kernel
theorem dX7_product_53 : decode cX7_product 53 = .ok (.ireturn, 1) := by decide +kernel
theorem dX7_factor_0 : decode cX7_factor 0 = .ok (.iload_n 0, 1) := by decide +kernel
theorem dX7_factor_1 : decode cX7_factor 1 = .ok (.ifCond .ne 65, 3) := by decide +kernel
theorem dX7_factor_4 : decode cX7_factor 4 = .ok (.iconst 1, 1) := by decide +kernel
theorem dX7_factor_5 : decode cX7_factor 5 = .ok (.istore_n 2, 1) := by decide +kernel
theorem dX7_factor_6 : decode cX7_factor 6 = .ok (.iload_n 2, 1) := by decide +kernel
theorem dX7_factor_7 : decode cX7_factor 7 = .ok (.iconst 3, 1) := by decide +kernel
theorem dX7_factor_8 : decode cX7_factor 8 = .ok (.iload_n 2, 1) := by decide +kernel
theorem dX7_factor_9 : decode cX7_factor 9 = .ok (.imul, 1) := by decide +kernel
theorem dX7_factor_10 : decode cX7_factor 10 = .ok (.iconst 1, 1) := by decide +kernel
theorem dX7_factor_11 : decode cX7_factor 11 = .ok (.isub, 1) := by decide +kernel
theorem dX7_factor_12 : decode cX7_factor 12 = .ok (.imul, 1) := by decide +kernel
theorem dX7_factor_13 : decode cX7_factor 13 = .ok (.iconst 2, 1) := by decide +kernel
theorem dX7_factor_14 : decode cX7_factor 14 = .ok (.idiv, 1) := by decide +kernel
theorem dX7_factor_15 : decode cX7_factor 15 = .ok (.iload_n 1, 1) := by decide +kernel
theorem dX7_factor_16 : decode cX7_factor 16 = .ok (.if_icmp .gt 48, 3) := by decide +kernel
theorem dX7_factor_19 : decode cX7_factor 19 = .ok (.iload_n 2, 1) := by decide +kernel
theorem dX7_factor_20 : decode cX7_factor 20 = .ok (.iconst 3, 1) := by decide +kernel
theorem dX7_factor_21 : decode cX7_factor 21 = .ok (.iload_n 2, 1) := by decide +kernel
theorem dX7_factor_22 : decode cX7_factor 22 = .ok (.imul, 1) := by decide +kernel
theorem dX7_factor_23 : decode cX7_factor 23 = .ok (.iconst 1, 1) := by decide +kernel
theorem dX7_factor_24 : decode cX7_factor 24 = .ok (.isub, 1) := by decide +kernel
theorem dX7_factor_25 : decode cX7_factor 25 = .ok (.imul, 1) := by decide +kernel
theorem dX7_factor_26 : decode cX7_factor 26 = .ok (.iconst 2, 1) := by decide +kernel
theorem dX7_factor_27 : decode cX7_factor 27 = .ok (.idiv, 1) := by decide +kernel
theorem dX7_factor_28 : decode cX7_factor 28 = .ok (.iload_n 1, 1) := by decide +kernel
theorem dX7_factor_29 : decode cX7_factor 29 = .ok (.if_icmp .eq 16, 3) := by decide +kernel
theorem dX7_factor_32 : decode cX7_factor 32 = .ok (.iload_n 2, 1) := by decide +kernel
theorem dX7_factor_33 : decode cX7_factor 33 = .ok (.iconst 3, 1) := by decide +kernel
theorem dX7_factor_34 : decode cX7_factor 34 = .ok (.iload_n 2, 1) := by decide +kernel
theorem dX7_factor_35 : decode cX7_factor 35 = .ok (.imul, 1) := by decide +kernel
theorem dX7_factor_36 : decode cX7_factor 36 = .ok (.iconst 1, 1) := by decide +kernel
theorem dX7_factor_37 : decode cX7_factor 37 = .ok (.iadd, 1) := by decide +kernel
theorem dX7_factor_38 : decode cX7_factor 38 = .ok (.imul, 1) := by decide +kernel
theorem dX7_factor_39 : decode cX7_factor 39 = .ok (.iconst 2, 1) := by decide +kernel
theorem dX7_factor_40 : decode cX7_factor 40 = .ok (.idiv, 1) := by decide +kernel
theorem dX7_factor_41 : decode cX7_factor 41 = .ok (.iload_n 1, 1) := by decide +kernel
theorem dX7_factor_42 : decode cX7_factor 42 = .ok (.if_icmp .ne 16, 3) := by decide +kernel
theorem dX7_factor_45 : decode cX7_factor 45 = .ok (.iload_n 2, 1) := by decide +kernel
theorem dX7_factor_46 : decode cX7_factor 46 = .ok (.iconst 2, 1) := by decide +kernel
theorem dX7_factor_47 : decode cX7_factor 47 = .ok (.irem, 1) := by decide +kernel
theorem dX7_factor_48 : decode cX7_factor 48 = .ok (.iconst 1, 1) := by decide +kernel
theorem dX7_factor_49 : decode cX7_factor 49 = .ok (.if_icmp .ne 7, 3) := by decide +kernel
theorem dX7_factor_52 : decode cX7_factor 52 = .ok (.iconst 1, 1) := by decide +kernel
theorem dX7_factor_53 : decode cX7_factor 53 = .ok (.goto 4, 3) := by decide +kernel
theorem dX7_factor_56 : decode cX7_factor 56 = .ok (.iconst (-1), 1) := by decide +kernel
theorem dX7_factor_57 : decode cX7_factor 57 = .ok (.ireturn, 1) := by decide +kernel
theorem dX7_factor_58 : decode cX7_factor 58 = .ok (.iinc 2 1, 3) := by decide +kernel
theorem dX7_factor_61 : decode cX7_factor 61 = .ok (.goto (-55), 3) := by decide +kernel
theorem dX7_factor_64 : decode cX7_factor 64 = .ok (.iconst 0, 1) := by decide +kernel
theorem dX7_factor_65 : decode cX7_factor 65 = .ok (.ireturn, 1) := by decide +kernel
theorem dX7_factor_66 : decode cX7_factor 66 = .ok (.iconst 0, 1) := by decide +kernel
theorem dX7_factor_67 : decode cX7_factor 67 = .ok (.istore_n 2, 1) := by decide +kernel
theorem dX7_factor_68 : decode cX7_factor 68 = .ok (.iconst 1, 1) := by decide +kernel
theorem dX7_factor_69 : decode cX7_factor 69 = .ok (.istore_n 3, 1) := by decide +kernel
theorem dX7_factor_70 : decode cX7_factor 70 = .ok (.iload_n 3, 1) := by decide +kernel
theorem dX7_factor_71 : decode cX7_factor 71 = .ok (.iload_n 1, 1) := by decide +kernel
theorem dX7_factor_72 : decode cX7_factor 72 = .ok (.if_icmp .gt 20, 3) := by decide +kernel
theorem dX7_factor_75 : decode cX7_factor 75 = .ok (.iload_n 1, 1) := by decide +kernel
theorem dX7_factor_76 : decode cX7_factor 76 = .ok (.iload_n 3, 1) := by decide +kernel
theorem dX7_factor_77 : decode cX7_factor 77 = .ok (.irem, 1) := by decide +kernel
theorem dX7_factor_78 : decode cX7_factor 78 = .ok (.ifCond .ne 7, 3) := by decide +kernel
theorem dX7_factor_81 : decode cX7_factor 81 = .ok (.iload_n 2, 1) := by decide +kernel
theorem dX7_factor_82 : decode cX7_factor 82 = .ok (.iload_n 3, 1) := by decide +kernel
theorem dX7_factor_83 : decode cX7_factor 83 = .ok (.iadd, 1) := by decide +kernel
theorem dX7_factor_84 : decode cX7_factor 84 = .ok (.istore_n 2, 1) := by decide +kernel
theorem dX7_factor_85 : decode cX7_factor 85 = .ok (.iload_n 3, 1) := by decide +kernel
theorem dX7_factor_86 : decode cX7_factor 86 = .ok (.iload_n 0, 1) := by decide +kernel
theorem dX7_factor_87 : decode cX7_factor 87 = .ok (.iadd, 1) := by decide +kernel
theorem dX7_factor_88 : decode cX7_factor 88 = .ok (.istore_n 3, 1) := by decide +kernel
theorem dX7_factor_89 : decode cX7_factor 89 = .ok (.goto (-19), 3) := by decide +kernel
theorem dX7_factor_92 : decode cX7_factor 92 = .ok (.iload_n 2, 1) := by decide +kernel
theorem dX7_factor_93 : decode cX7_factor 93 = .ok (.ireturn, 1) := by decide +kernel
theorem dX7_ledgerWorth_0 : decode cX7_ledgerWorth 0 = .ok (.iload_n 2, 1) := by decide +kernel
theorem dX7_ledgerWorth_1 : decode cX7_ledgerWorth 1 = .ok (.ifCond .ne 7, 3) := by decide +kernel
theorem dX7_ledgerWorth_4 : decode cX7_ledgerWorth 4 = .ok (.iconst 1, 1) := by decide +kernel
theorem dX7_ledgerWorth_5 : decode cX7_ledgerWorth 5 = .ok (.goto 11, 3) := by decide +kernel
theorem dX7_ledgerWorth_8 : decode cX7_ledgerWorth 8 = .ok (.aload_n 0, 1) := by decide +kernel
theorem dX7_ledgerWorth_9 : decode cX7_ledgerWorth 9 = .ok (.getfield 14, 3) := by decide +kernel
theorem dX7_ledgerWorth_12 : decode cX7_ledgerWorth 12 = .ok (.iload_n 1, 1) := by decide +kernel
theorem dX7_ledgerWorth_13 : decode cX7_ledgerWorth 13 = .ok (.aaload, 1) := by decide +kernel
theorem dX7_ledgerWorth_14 : decode cX7_ledgerWorth 14 = .ok (.iload_n 2, 1) := by decide +kernel
theorem dX7_ledgerWorth_15 : decode cX7_ledgerWorth 15 = .ok (.iaload, 1) := by decide +kernel
theorem dX7_ledgerWorth_16 : decode cX7_ledgerWorth 16 = .ok (.ireturn, 1) := by decide +kernel
theorem dX7_rule_0 : decode cX7_rule 0 = .ok (.aload_n 0, 1) := by decide +kernel
theorem dX7_rule_1 : decode cX7_rule 1 = .ok (.iload_n 1, 1) := by decide +kernel
theorem dX7_rule_2 : decode cX7_rule 2 = .ok (.iconst 0, 1) := by decide +kernel
theorem dX7_rule_3 : decode cX7_rule 3 = .ok (.iconst 2, 1) := by decide +kernel
theorem dX7_rule_4 : decode cX7_rule 4 = .ok (.invokestatic 31, 3) := by decide +kernel
theorem dX7_rule_7 : decode cX7_rule 7 = .ok (.iload_n 2, 1) := by decide +kernel
theorem dX7_rule_8 : decode cX7_rule 8 = .ok (.iconst 0, 1) := by decide +kernel
theorem dX7_rule_9 : decode cX7_rule 9 = .ok (.bipush 20, 2) := by decide +kernel
theorem dX7_rule_11 : decode cX7_rule 11 = .ok (.invokestatic 31, 3) := by decide +kernel
theorem dX7_rule_14 : decode cX7_rule 14 = .ok (.invokevirtual 110, 3) := by decide +kernel
theorem dX7_rule_17 : decode cX7_rule 17 = .ok (.ifCond .eq 5, 3) := by decide +kernel
theorem dX7_rule_20 : decode cX7_rule 20 = .ok (.iconst 0, 1) := by decide +kernel
theorem dX7_rule_21 : decode cX7_rule 21 = .ok (.ireturn, 1) := by decide +kernel
theorem dX7_rule_22 : decode cX7_rule 22 = .ok (.iconst 0, 1) := by decide +kernel
theorem dX7_rule_23 : decode cX7_rule 23 = .ok (.istore_n 3, 1) := by decide +kernel
theorem dX7_rule_24 : decode cX7_rule 24 = .ok (.iload_n 3, 1) := by decide +kernel
theorem dX7_rule_25 : decode cX7_rule 25 = .ok (.iload_n 2, 1) := by decide +kernel
theorem dX7_rule_26 : decode cX7_rule 26 = .ok (.if_icmp .ge 16, 3) := by decide +kernel
theorem dX7_rule_29 : decode cX7_rule 29 = .ok (.aload_n 0, 1) := by decide +kernel
theorem dX7_rule_30 : decode cX7_rule 30 = .ok (.getfield 24, 3) := by decide +kernel
theorem dX7_rule_33 : decode cX7_rule 33 = .ok (.iload_n 3, 1) := by decide +kernel
theorem dX7_rule_34 : decode cX7_rule 34 = .ok (.iconst 0, 1) := by decide +kernel
theorem dX7_rule_35 : decode cX7_rule 35 = .ok (.iastore, 1) := by decide +kernel
theorem dX7_rule_36 : decode cX7_rule 36 = .ok (.iinc 3 1, 3) := by decide +kernel
theorem dX7_rule_39 : decode cX7_rule 39 = .ok (.goto (-15), 3) := by decide +kernel
theorem dX7_rule_42 : decode cX7_rule 42 = .ok (.aload_n 0, 1) := by decide +kernel
theorem dX7_rule_43 : decode cX7_rule 43 = .ok (.getfield 24, 3) := by decide +kernel
theorem dX7_rule_46 : decode cX7_rule 46 = .ok (.iload_n 2, 1) := by decide +kernel
theorem dX7_rule_47 : decode cX7_rule 47 = .ok (.iconst 1, 1) := by decide +kernel
theorem dX7_rule_48 : decode cX7_rule 48 = .ok (.iastore, 1) := by decide +kernel
theorem dX7_rule_49 : decode cX7_rule 49 = .ok (.iload_n 2, 1) := by decide +kernel
theorem dX7_rule_50 : decode cX7_rule 50 = .ok (.istore_n 3, 1) := by decide +kernel
theorem dX7_rule_51 : decode cX7_rule 51 = .ok (.iload_n 3, 1) := by decide +kernel
theorem dX7_rule_52 : decode cX7_rule 52 = .ok (.ifCond .le 131, 3) := by decide +kernel
theorem dX7_rule_55 : decode cX7_rule 55 = .ok (.aload_n 0, 1) := by decide +kernel
theorem dX7_rule_56 : decode cX7_rule 56 = .ok (.getfield 24, 3) := by decide +kernel
theorem dX7_rule_59 : decode cX7_rule 59 = .ok (.iload_n 3, 1) := by decide +kernel
theorem dX7_rule_60 : decode cX7_rule 60 = .ok (.iaload, 1) := by decide +kernel
theorem dX7_rule_61 : decode cX7_rule 61 = .ok (.ifCond .ne 6, 3) := by decide +kernel
theorem dX7_rule_64 : decode cX7_rule 64 = .ok (.goto 113, 3) := by decide +kernel
theorem dX7_rule_67 : decode cX7_rule 67 = .ok (.aload_n 0, 1) := by decide +kernel
theorem dX7_rule_68 : decode cX7_rule 68 = .ok (.getfield 14, 3) := by decide +kernel
theorem dX7_rule_71 : decode cX7_rule 71 = .ok (.iload_n 1, 1) := by decide +kernel
theorem dX7_rule_72 : decode cX7_rule 72 = .ok (.aaload, 1) := by decide +kernel
theorem dX7_rule_73 : decode cX7_rule 73 = .ok (.iload_n 3, 1) := by decide +kernel
theorem dX7_rule_74 : decode cX7_rule 74 = .ok (.iaload, 1) := by decide +kernel
theorem dX7_rule_75 : decode cX7_rule 75 = .ok (.ifCond .ne 7, 3) := by decide +kernel
theorem dX7_rule_78 : decode cX7_rule 78 = .ok (.iconst 1, 1) := by decide +kernel
theorem dX7_rule_79 : decode cX7_rule 79 = .ok (.goto 4, 3) := by decide +kernel
theorem dX7_rule_82 : decode cX7_rule 82 = .ok (.iconst 0, 1) := by decide +kernel
theorem dX7_rule_83 : decode cX7_rule 83 = .ok (.istore 4, 2) := by decide +kernel
theorem dX7_rule_85 : decode cX7_rule 85 = .ok (.aload_n 0, 1) := by decide +kernel
theorem dX7_rule_86 : decode cX7_rule 86 = .ok (.getfield 20, 3) := by decide +kernel
theorem dX7_rule_89 : decode cX7_rule 89 = .ok (.iconst 1, 1) := by decide +kernel
theorem dX7_rule_90 : decode cX7_rule 90 = .ok (.dup2, 1) := by decide +kernel
theorem dX7_rule_91 : decode cX7_rule 91 = .ok (.iaload, 1) := by decide +kernel
theorem dX7_rule_92 : decode cX7_rule 92 = .ok (.aload_n 0, 1) := by decide +kernel
theorem dX7_rule_93 : decode cX7_rule 93 = .ok (.getfield 24, 3) := by decide +kernel
theorem dX7_rule_96 : decode cX7_rule 96 = .ok (.iload_n 3, 1) := by decide +kernel
theorem dX7_rule_97 : decode cX7_rule 97 = .ok (.iaload, 1) := by decide +kernel
theorem dX7_rule_98 : decode cX7_rule 98 = .ok (.iadd, 1) := by decide +kernel
theorem dX7_rule_99 : decode cX7_rule 99 = .ok (.iastore, 1) := by decide +kernel
theorem dX7_rule_100 : decode cX7_rule 100 = .ok (.aload_n 0, 1) := by decide +kernel
theorem dX7_rule_101 : decode cX7_rule 101 = .ok (.getfield 20, 3) := by decide +kernel
theorem dX7_rule_104 : decode cX7_rule 104 = .ok (.iconst 2, 1) := by decide +kernel
theorem dX7_rule_105 : decode cX7_rule 105 = .ok (.dup2, 1) := by decide +kernel
theorem dX7_rule_106 : decode cX7_rule 106 = .ok (.iaload, 1) := by decide +kernel
theorem dX7_rule_107 : decode cX7_rule 107 = .ok (.iload 4, 2) := by decide +kernel
theorem dX7_rule_109 : decode cX7_rule 109 = .ok (.invokestatic 43, 3) := by decide +kernel
theorem dX7_rule_112 : decode cX7_rule 112 = .ok (.iadd, 1) := by decide +kernel
theorem dX7_rule_113 : decode cX7_rule 113 = .ok (.iastore, 1) := by decide +kernel
theorem dX7_rule_114 : decode cX7_rule 114 = .ok (.aload_n 0, 1) := by decide +kernel
theorem dX7_rule_115 : decode cX7_rule 115 = .ok (.getfield 20, 3) := by decide +kernel
theorem dX7_rule_118 : decode cX7_rule 118 = .ok (.iconst 3, 1) := by decide +kernel
theorem dX7_rule_119 : decode cX7_rule 119 = .ok (.dup2, 1) := by decide +kernel
theorem dX7_rule_120 : decode cX7_rule 120 = .ok (.iaload, 1) := by decide +kernel
theorem dX7_rule_121 : decode cX7_rule 121 = .ok (.aload_n 0, 1) := by decide +kernel
theorem dX7_rule_122 : decode cX7_rule 122 = .ok (.getfield 24, 3) := by decide +kernel
theorem dX7_rule_125 : decode cX7_rule 125 = .ok (.iload_n 3, 1) := by decide +kernel
theorem dX7_rule_126 : decode cX7_rule 126 = .ok (.iaload, 1) := by decide +kernel
theorem dX7_rule_127 : decode cX7_rule 127 = .ok (.iload 4, 2) := by decide +kernel
theorem dX7_rule_129 : decode cX7_rule 129 = .ok (.invokestatic 43, 3) := by decide +kernel
theorem dX7_rule_132 : decode cX7_rule 132 = .ok (.isub, 1) := by decide +kernel
theorem dX7_rule_133 : decode cX7_rule 133 = .ok (.iadd, 1) := by decide +kernel
theorem dX7_rule_134 : decode cX7_rule 134 = .ok (.iastore, 1) := by decide +kernel
theorem dX7_rule_135 : decode cX7_rule 135 = .ok (.iconst 1, 1) := by decide +kernel
theorem dX7_rule_136 : decode cX7_rule 136 = .ok (.istore 5, 2) := by decide +kernel
theorem dX7_rule_138 : decode cX7_rule 138 = .ok (.iload 5, 2) := by decide +kernel
theorem dX7_rule_140 : decode cX7_rule 140 = .ok (.iload_n 3, 1) := by decide +kernel
theorem dX7_rule_141 : decode cX7_rule 141 = .ok (.if_icmp .gt 36, 3) := by decide +kernel
theorem dX7_rule_144 : decode cX7_rule 144 = .ok (.iload 4, 2) := by decide +kernel
theorem dX7_rule_146 : decode cX7_rule 146 = .ok (.ifCond .eq 31, 3) := by decide +kernel
theorem dX7_rule_149 : decode cX7_rule 149 = .ok (.iload_n 1, 1) := by decide +kernel
theorem dX7_rule_150 : decode cX7_rule 150 = .ok (.iload 5, 2) := by decide +kernel
theorem dX7_rule_152 : decode cX7_rule 152 = .ok (.invokestatic 156, 3) := by decide +kernel
theorem dX7_rule_155 : decode cX7_rule 155 = .ok (.ifCond .eq 16, 3) := by decide +kernel
theorem dX7_rule_158 : decode cX7_rule 158 = .ok (.aload_n 0, 1) := by decide +kernel
theorem dX7_rule_159 : decode cX7_rule 159 = .ok (.getfield 24, 3) := by decide +kernel
theorem dX7_rule_162 : decode cX7_rule 162 = .ok (.iload_n 3, 1) := by decide +kernel
theorem dX7_rule_163 : decode cX7_rule 163 = .ok (.iload 5, 2) := by decide +kernel
theorem dX7_rule_165 : decode cX7_rule 165 = .ok (.isub, 1) := by decide +kernel
theorem dX7_rule_166 : decode cX7_rule 166 = .ok (.dup2, 1) := by decide +kernel
theorem dX7_rule_167 : decode cX7_rule 167 = .ok (.iaload, 1) := by decide +kernel
theorem dX7_rule_168 : decode cX7_rule 168 = .ok (.iconst 1, 1) := by decide +kernel
theorem dX7_rule_169 : decode cX7_rule 169 = .ok (.iadd, 1) := by decide +kernel
theorem dX7_rule_170 : decode cX7_rule 170 = .ok (.iastore, 1) := by decide +kernel
theorem dX7_rule_171 : decode cX7_rule 171 = .ok (.iinc 5 1, 3) := by decide +kernel
theorem dX7_rule_174 : decode cX7_rule 174 = .ok (.goto (-36), 3) := by decide +kernel
theorem dX7_rule_177 : decode cX7_rule 177 = .ok (.iinc 3 (-1), 3) := by decide +kernel
theorem dX7_rule_180 : decode cX7_rule 180 = .ok (.goto (-129), 3) := by decide +kernel
theorem dX7_rule_183 : decode cX7_rule 183 = .ok (.iconst 1, 1) := by decide +kernel
theorem dX7_rule_184 : decode cX7_rule 184 = .ok (.istore_n 3, 1) := by decide +kernel
theorem dX7_rule_185 : decode cX7_rule 185 = .ok (.iload_n 3, 1) := by decide +kernel
theorem dX7_rule_186 : decode cX7_rule 186 = .ok (.iload_n 2, 1) := by decide +kernel
theorem dX7_rule_187 : decode cX7_rule 187 = .ok (.if_icmp .gt 101, 3) := by decide +kernel
theorem dX7_rule_190 : decode cX7_rule 190 = .ok (.aload_n 0, 1) := by decide +kernel
theorem dX7_rule_191 : decode cX7_rule 191 = .ok (.getfield 24, 3) := by decide +kernel
theorem dX7_rule_194 : decode cX7_rule 194 = .ok (.iload_n 3, 1) := by decide +kernel
theorem dX7_rule_195 : decode cX7_rule 195 = .ok (.iaload, 1) := by decide +kernel
theorem dX7_rule_196 : decode cX7_rule 196 = .ok (.ifCond .eq 86, 3) := by decide +kernel
theorem dX7_rule_199 : decode cX7_rule 199 = .ok (.aload_n 0, 1) := by decide +kernel
theorem dX7_rule_200 : decode cX7_rule 200 = .ok (.getfield 14, 3) := by decide +kernel
theorem dX7_rule_203 : decode cX7_rule 203 = .ok (.iload_n 1, 1) := by decide +kernel
theorem dX7_rule_204 : decode cX7_rule 204 = .ok (.aaload, 1) := by decide +kernel
theorem dX7_rule_205 : decode cX7_rule 205 = .ok (.iload_n 3, 1) := by decide +kernel
theorem dX7_rule_206 : decode cX7_rule 206 = .ok (.iaload, 1) := by decide +kernel
theorem dX7_rule_207 : decode cX7_rule 207 = .ok (.ifCond .le 6, 3) := by decide +kernel
theorem dX7_rule_210 : decode cX7_rule 210 = .ok (.goto 72, 3) := by decide +kernel
theorem dX7_rule_213 : decode cX7_rule 213 = .ok (.iconst 0, 1) := by decide +kernel
theorem dX7_rule_214 : decode cX7_rule 214 = .ok (.istore 4, 2) := by decide +kernel
theorem dX7_rule_216 : decode cX7_rule 216 = .ok (.iconst 1, 1) := by decide +kernel
theorem dX7_rule_217 : decode cX7_rule 217 = .ok (.istore 5, 2) := by decide +kernel
theorem dX7_rule_219 : decode cX7_rule 219 = .ok (.iload 5, 2) := by decide +kernel
theorem dX7_rule_221 : decode cX7_rule 221 = .ok (.iload_n 3, 1) := by decide +kernel
theorem dX7_rule_222 : decode cX7_rule 222 = .ok (.if_icmp .gt 39, 3) := by decide +kernel
theorem dX7_rule_225 : decode cX7_rule 225 = .ok (.iload_n 1, 1) := by decide +kernel
theorem dX7_rule_226 : decode cX7_rule 226 = .ok (.iload 5, 2) := by decide +kernel
theorem dX7_rule_228 : decode cX7_rule 228 = .ok (.invokestatic 156, 3) := by decide +kernel
theorem dX7_rule_231 : decode cX7_rule 231 = .ok (.ifCond .eq 24, 3) := by decide +kernel
theorem dX7_rule_234 : decode cX7_rule 234 = .ok (.iload 4, 2) := by decide +kernel
theorem dX7_rule_236 : decode cX7_rule 236 = .ok (.iload_n 1, 1) := by decide +kernel
theorem dX7_rule_237 : decode cX7_rule 237 = .ok (.iload 5, 2) := by decide +kernel
theorem dX7_rule_239 : decode cX7_rule 239 = .ok (.invokestatic 156, 3) := by decide +kernel
theorem dX7_rule_242 : decode cX7_rule 242 = .ok (.aload_n 0, 1) := by decide +kernel
theorem dX7_rule_243 : decode cX7_rule 243 = .ok (.iload_n 1, 1) := by decide +kernel
theorem dX7_rule_244 : decode cX7_rule 244 = .ok (.iload_n 3, 1) := by decide +kernel
theorem dX7_rule_245 : decode cX7_rule 245 = .ok (.iload 5, 2) := by decide +kernel
theorem dX7_rule_247 : decode cX7_rule 247 = .ok (.isub, 1) := by decide +kernel
theorem dX7_rule_248 : decode cX7_rule 248 = .ok (.invokevirtual 159, 3) := by decide +kernel
theorem dX7_rule_251 : decode cX7_rule 251 = .ok (.imul, 1) := by decide +kernel
theorem dX7_rule_252 : decode cX7_rule 252 = .ok (.iadd, 1) := by decide +kernel
theorem dX7_rule_253 : decode cX7_rule 253 = .ok (.istore 4, 2) := by decide +kernel
theorem dX7_rule_255 : decode cX7_rule 255 = .ok (.iinc 5 1, 3) := by decide +kernel
theorem dX7_rule_258 : decode cX7_rule 258 = .ok (.goto (-39), 3) := by decide +kernel
theorem dX7_rule_261 : decode cX7_rule 261 = .ok (.aload_n 0, 1) := by decide +kernel
theorem dX7_rule_262 : decode cX7_rule 262 = .ok (.getfield 14, 3) := by decide +kernel
theorem dX7_rule_265 : decode cX7_rule 265 = .ok (.iload_n 1, 1) := by decide +kernel
theorem dX7_rule_266 : decode cX7_rule 266 = .ok (.aaload, 1) := by decide +kernel
theorem dX7_rule_267 : decode cX7_rule 267 = .ok (.iload_n 3, 1) := by decide +kernel
theorem dX7_rule_268 : decode cX7_rule 268 = .ok (.iload_n 1, 1) := by decide +kernel
theorem dX7_rule_269 : decode cX7_rule 269 = .ok (.ifCond .ne 8, 3) := by decide +kernel
theorem dX7_rule_272 : decode cX7_rule 272 = .ok (.iload 4, 2) := by decide +kernel
theorem dX7_rule_274 : decode cX7_rule 274 = .ok (.goto 7, 3) := by decide +kernel
theorem dX7_rule_277 : decode cX7_rule 277 = .ok (.iload 4, 2) := by decide +kernel
theorem dX7_rule_279 : decode cX7_rule 279 = .ok (.iload_n 3, 1) := by decide +kernel
theorem dX7_rule_280 : decode cX7_rule 280 = .ok (.idiv, 1) := by decide +kernel
theorem dX7_rule_281 : decode cX7_rule 281 = .ok (.iastore, 1) := by decide +kernel
theorem dX7_rule_282 : decode cX7_rule 282 = .ok (.iinc 3 1, 3) := by decide +kernel
theorem dX7_rule_285 : decode cX7_rule 285 = .ok (.goto (-100), 3) := by decide +kernel
theorem dX7_rule_288 : decode cX7_rule 288 = .ok (.aload_n 0, 1) := by decide +kernel
theorem dX7_rule_289 : decode cX7_rule 289 = .ok (.aload_n 0, 1) := by decide +kernel
theorem dX7_rule_290 : decode cX7_rule 290 = .ok (.iload_n 1, 1) := by decide +kernel
theorem dX7_rule_291 : decode cX7_rule 291 = .ok (.iload_n 2, 1) := by decide +kernel
theorem dX7_rule_292 : decode cX7_rule 292 = .ok (.invokevirtual 159, 3) := by decide +kernel
theorem dX7_rule_295 : decode cX7_rule 295 = .ok (.invokevirtual 117, 3) := by decide +kernel
theorem dX7_rule_298 : decode cX7_rule 298 = .ok (.ireturn, 1) := by decide +kernel
theorem dX7_ledgerTold_0 : decode cX7_ledgerTold 0 = .ok (.iconst 0, 1) := by decide +kernel
theorem dX7_ledgerTold_1 : decode cX7_ledgerTold 1 = .ok (.istore_n 3, 1) := by decide +kernel
theorem dX7_ledgerTold_2 : decode cX7_ledgerTold 2 = .ok (.iconst 1, 1) := by decide +kernel
theorem dX7_ledgerTold_3 : decode cX7_ledgerTold 3 = .ok (.istore 4, 2) := by decide +kernel
theorem dX7_ledgerTold_5 : decode cX7_ledgerTold 5 = .ok (.iload 4, 2) := by decide +kernel
theorem dX7_ledgerTold_7 : decode cX7_ledgerTold 7 = .ok (.bipush 20, 2) := by decide +kernel
theorem dX7_ledgerTold_9 : decode cX7_ledgerTold 9 = .ok (.if_icmp .gt 44, 3) := by decide +kernel
theorem dX7_ledgerTold_12 : decode cX7_ledgerTold 12 = .ok (.aload_n 0, 1) := by decide +kernel
theorem dX7_ledgerTold_13 : decode cX7_ledgerTold 13 = .ok (.getfield 14, 3) := by decide +kernel
theorem dX7_ledgerTold_16 : decode cX7_ledgerTold 16 = .ok (.iload_n 1, 1) := by decide +kernel
theorem dX7_ledgerTold_17 : decode cX7_ledgerTold 17 = .ok (.aaload, 1) := by decide +kernel
theorem dX7_ledgerTold_18 : decode cX7_ledgerTold 18 = .ok (.iload 4, 2) := by decide +kernel
theorem dX7_ledgerTold_20 : decode cX7_ledgerTold 20 = .ok (.iaload, 1) := by decide +kernel
theorem dX7_ledgerTold_21 : decode cX7_ledgerTold 21 = .ok (.ifCond .le 26, 3) := by decide +kernel
theorem dX7_ledgerTold_24 : decode cX7_ledgerTold 24 = .ok (.iload_n 3, 1) := by decide +kernel
theorem dX7_ledgerTold_25 : decode cX7_ledgerTold 25 = .ok (.iload_n 2, 1) := by decide +kernel
theorem dX7_ledgerTold_26 : decode cX7_ledgerTold 26 = .ok (.ifCond .ne 7, 3) := by decide +kernel
theorem dX7_ledgerTold_29 : decode cX7_ledgerTold 29 = .ok (.iconst 1, 1) := by decide +kernel
theorem dX7_ledgerTold_30 : decode cX7_ledgerTold 30 = .ok (.goto 15, 3) := by decide +kernel
theorem dX7_ledgerTold_33 : decode cX7_ledgerTold 33 = .ok (.iload 4, 2) := by decide +kernel
theorem dX7_ledgerTold_35 : decode cX7_ledgerTold 35 = .ok (.aload_n 0, 1) := by decide +kernel
theorem dX7_ledgerTold_36 : decode cX7_ledgerTold 36 = .ok (.getfield 14, 3) := by decide +kernel
theorem dX7_ledgerTold_39 : decode cX7_ledgerTold 39 = .ok (.iload_n 1, 1) := by decide +kernel
theorem dX7_ledgerTold_40 : decode cX7_ledgerTold 40 = .ok (.aaload, 1) := by decide +kernel
theorem dX7_ledgerTold_41 : decode cX7_ledgerTold 41 = .ok (.iload 4, 2) := by decide +kernel
theorem dX7_ledgerTold_43 : decode cX7_ledgerTold 43 = .ok (.iaload, 1) := by decide +kernel
theorem dX7_ledgerTold_44 : decode cX7_ledgerTold 44 = .ok (.ixor, 1) := by decide +kernel
theorem dX7_ledgerTold_45 : decode cX7_ledgerTold 45 = .ok (.iadd, 1) := by decide +kernel
theorem dX7_ledgerTold_46 : decode cX7_ledgerTold 46 = .ok (.istore_n 3, 1) := by decide +kernel
theorem dX7_ledgerTold_47 : decode cX7_ledgerTold 47 = .ok (.iinc 4 1, 3) := by decide +kernel
theorem dX7_ledgerTold_50 : decode cX7_ledgerTold 50 = .ok (.goto (-45), 3) := by decide +kernel
theorem dX7_ledgerTold_53 : decode cX7_ledgerTold 53 = .ok (.iload_n 3, 1) := by decide +kernel
theorem dX7_ledgerTold_54 : decode cX7_ledgerTold 54 = .ok (.ireturn, 1) := by decide +kernel
theorem dX7_forgetRule_0 : decode cX7_forgetRule 0 = .ok (.aload_n 0, 1) := by decide +kernel
theorem dX7_forgetRule_1 : decode cX7_forgetRule 1 = .ok (.iload_n 1, 1) := by decide +kernel
theorem dX7_forgetRule_2 : decode cX7_forgetRule 2 = .ok (.iconst 0, 1) := by decide +kernel
theorem dX7_forgetRule_3 : decode cX7_forgetRule 3 = .ok (.iconst 2, 1) := by decide +kernel
theorem dX7_forgetRule_4 : decode cX7_forgetRule 4 = .ok (.invokestatic 31, 3) := by decide +kernel
theorem dX7_forgetRule_7 : decode cX7_forgetRule 7 = .ok (.iload_n 2, 1) := by decide +kernel
theorem dX7_forgetRule_8 : decode cX7_forgetRule 8 = .ok (.iconst 0, 1) := by decide +kernel
theorem dX7_forgetRule_9 : decode cX7_forgetRule 9 = .ok (.bipush 20, 2) := by decide +kernel
theorem dX7_forgetRule_11 : decode cX7_forgetRule 11 = .ok (.invokestatic 31, 3) := by decide +kernel
theorem dX7_forgetRule_14 : decode cX7_forgetRule 14 = .ok (.invokevirtual 110, 3) := by decide +kernel
theorem dX7_forgetRule_17 : decode cX7_forgetRule 17 = .ok (.ifCond .eq 5, 3) := by decide +kernel
theorem dX7_forgetRule_20 : decode cX7_forgetRule 20 = .ok (.iconst 0, 1) := by decide +kernel
theorem dX7_forgetRule_21 : decode cX7_forgetRule 21 = .ok (.ireturn, 1) := by decide +kernel
theorem dX7_forgetRule_22 : decode cX7_forgetRule 22 = .ok (.iload_n 2, 1) := by decide +kernel
theorem dX7_forgetRule_23 : decode cX7_forgetRule 23 = .ok (.ifCond .ne 12, 3) := by decide +kernel
theorem dX7_forgetRule_26 : decode cX7_forgetRule 26 = .ok (.aload_n 0, 1) := by decide +kernel
theorem dX7_forgetRule_27 : decode cX7_forgetRule 27 = .ok (.iload_n 1, 1) := by decide +kernel
theorem dX7_forgetRule_28 : decode cX7_forgetRule 28 = .ok (.iconst 0, 1) := by decide +kernel
theorem dX7_forgetRule_29 : decode cX7_forgetRule 29 = .ok (.invokevirtual 162, 3) := by decide +kernel
theorem dX7_forgetRule_32 : decode cX7_forgetRule 32 = .ok (.goto 11, 3) := by decide +kernel
theorem dX7_forgetRule_35 : decode cX7_forgetRule 35 = .ok (.aload_n 0, 1) := by decide +kernel
theorem dX7_forgetRule_36 : decode cX7_forgetRule 36 = .ok (.getfield 14, 3) := by decide +kernel
theorem dX7_forgetRule_39 : decode cX7_forgetRule 39 = .ok (.iload_n 1, 1) := by decide +kernel
theorem dX7_forgetRule_40 : decode cX7_forgetRule 40 = .ok (.aaload, 1) := by decide +kernel
theorem dX7_forgetRule_41 : decode cX7_forgetRule 41 = .ok (.iload_n 2, 1) := by decide +kernel
theorem dX7_forgetRule_42 : decode cX7_forgetRule 42 = .ok (.iaload, 1) := by decide +kernel
theorem dX7_forgetRule_43 : decode cX7_forgetRule 43 = .ok (.istore_n 3, 1) := by decide +kernel
theorem dX7_forgetRule_44 : decode cX7_forgetRule 44 = .ok (.iload_n 2, 1) := by decide +kernel
theorem dX7_forgetRule_45 : decode cX7_forgetRule 45 = .ok (.ifCond .le 12, 3) := by decide +kernel
theorem dX7_forgetRule_48 : decode cX7_forgetRule 48 = .ok (.iload_n 3, 1) := by decide +kernel
theorem dX7_forgetRule_49 : decode cX7_forgetRule 49 = .ok (.ifCond .ne 8, 3) := by decide +kernel
theorem dX7_forgetRule_52 : decode cX7_forgetRule 52 = .ok (.aload_n 0, 1) := by decide +kernel
theorem dX7_forgetRule_53 : decode cX7_forgetRule 53 = .ok (.invokevirtual 124, 3) := by decide +kernel
theorem dX7_forgetRule_56 : decode cX7_forgetRule 56 = .ok (.ireturn, 1) := by decide +kernel
theorem dX7_forgetRule_57 : decode cX7_forgetRule 57 = .ok (.iconst 1, 1) := by decide +kernel
theorem dX7_forgetRule_58 : decode cX7_forgetRule 58 = .ok (.istore 4, 2) := by decide +kernel
theorem dX7_forgetRule_60 : decode cX7_forgetRule 60 = .ok (.iload 4, 2) := by decide +kernel
theorem dX7_forgetRule_62 : decode cX7_forgetRule 62 = .ok (.bipush 20, 2) := by decide +kernel
theorem dX7_forgetRule_64 : decode cX7_forgetRule 64 = .ok (.if_icmp .gt 29, 3) := by decide +kernel
theorem dX7_forgetRule_67 : decode cX7_forgetRule 67 = .ok (.iload_n 2, 1) := by decide +kernel
theorem dX7_forgetRule_68 : decode cX7_forgetRule 68 = .ok (.ifCond .eq 9, 3) := by decide +kernel
theorem dX7_forgetRule_71 : decode cX7_forgetRule 71 = .ok (.iload_n 2, 1) := by decide +kernel
theorem dX7_forgetRule_72 : decode cX7_forgetRule 72 = .ok (.iload 4, 2) := by decide +kernel
theorem dX7_forgetRule_74 : decode cX7_forgetRule 74 = .ok (.if_icmp .ne 13, 3) := by decide +kernel
theorem dX7_forgetRule_77 : decode cX7_forgetRule 77 = .ok (.aload_n 0, 1) := by decide +kernel
theorem dX7_forgetRule_78 : decode cX7_forgetRule 78 = .ok (.getfield 14, 3) := by decide +kernel
theorem dX7_forgetRule_81 : decode cX7_forgetRule 81 = .ok (.iload_n 1, 1) := by decide +kernel
theorem dX7_forgetRule_82 : decode cX7_forgetRule 82 = .ok (.aaload, 1) := by decide +kernel
theorem dX7_forgetRule_83 : decode cX7_forgetRule 83 = .ok (.iload 4, 2) := by decide +kernel
theorem dX7_forgetRule_85 : decode cX7_forgetRule 85 = .ok (.iconst 0, 1) := by decide +kernel
theorem dX7_forgetRule_86 : decode cX7_forgetRule 86 = .ok (.iastore, 1) := by decide +kernel
theorem dX7_forgetRule_87 : decode cX7_forgetRule 87 = .ok (.iinc 4 1, 3) := by decide +kernel
theorem dX7_forgetRule_90 : decode cX7_forgetRule 90 = .ok (.goto (-30), 3) := by decide +kernel
theorem dX7_forgetRule_93 : decode cX7_forgetRule 93 = .ok (.aload_n 0, 1) := by decide +kernel
theorem dX7_forgetRule_94 : decode cX7_forgetRule 94 = .ok (.iload_n 3, 1) := by decide +kernel
theorem dX7_forgetRule_95 : decode cX7_forgetRule 95 = .ok (.invokevirtual 117, 3) := by decide +kernel
theorem dX7_forgetRule_98 : decode cX7_forgetRule 98 = .ok (.ireturn, 1) := by decide +kernel
theorem dX7_ledger_0 : decode cX7_ledger 0 = .ok (.aload_n 0, 1) := by decide +kernel
theorem dX7_ledger_1 : decode cX7_ledger 1 = .ok (.iload_n 1, 1) := by decide +kernel
theorem dX7_ledger_2 : decode cX7_ledger 2 = .ok (.iconst 0, 1) := by decide +kernel
theorem dX7_ledger_3 : decode cX7_ledger 3 = .ok (.iconst 2, 1) := by decide +kernel
theorem dX7_ledger_4 : decode cX7_ledger 4 = .ok (.invokestatic 31, 3) := by decide +kernel
theorem dX7_ledger_7 : decode cX7_ledger 7 = .ok (.iload_n 2, 1) := by decide +kernel
theorem dX7_ledger_8 : decode cX7_ledger 8 = .ok (.iconst 0, 1) := by decide +kernel
theorem dX7_ledger_9 : decode cX7_ledger 9 = .ok (.iconst 1, 1) := by decide +kernel
theorem dX7_ledger_10 : decode cX7_ledger 10 = .ok (.invokestatic 31, 3) := by decide +kernel
theorem dX7_ledger_13 : decode cX7_ledger 13 = .ok (.invokevirtual 110, 3) := by decide +kernel
theorem dX7_ledger_16 : decode cX7_ledger 16 = .ok (.ifCond .eq 7, 3) := by decide +kernel
theorem dX7_ledger_19 : decode cX7_ledger 19 = .ok (.iconst 0, 1) := by decide +kernel
theorem dX7_ledger_20 : decode cX7_ledger 20 = .ok (.goto 9, 3) := by decide +kernel
theorem dX7_ledger_23 : decode cX7_ledger 23 = .ok (.aload_n 0, 1) := by decide +kernel
theorem dX7_ledger_24 : decode cX7_ledger 24 = .ok (.iload_n 1, 1) := by decide +kernel
theorem dX7_ledger_25 : decode cX7_ledger 25 = .ok (.iload_n 2, 1) := by decide +kernel
theorem dX7_ledger_26 : decode cX7_ledger 26 = .ok (.invokevirtual 162, 3) := by decide +kernel
theorem dX7_ledger_29 : decode cX7_ledger 29 = .ok (.ireturn, 1) := by decide +kernel
theorem dX7_ruleWorth_0 : decode cX7_ruleWorth 0 = .ok (.aload_n 0, 1) := by decide +kernel
theorem dX7_ruleWorth_1 : decode cX7_ruleWorth 1 = .ok (.iload_n 1, 1) := by decide +kernel
theorem dX7_ruleWorth_2 : decode cX7_ruleWorth 2 = .ok (.iconst 0, 1) := by decide +kernel
theorem dX7_ruleWorth_3 : decode cX7_ruleWorth 3 = .ok (.iconst 2, 1) := by decide +kernel
theorem dX7_ruleWorth_4 : decode cX7_ruleWorth 4 = .ok (.invokestatic 31, 3) := by decide +kernel
theorem dX7_ruleWorth_7 : decode cX7_ruleWorth 7 = .ok (.iload_n 2, 1) := by decide +kernel
theorem dX7_ruleWorth_8 : decode cX7_ruleWorth 8 = .ok (.iconst 0, 1) := by decide +kernel
theorem dX7_ruleWorth_9 : decode cX7_ruleWorth 9 = .ok (.bipush 20, 2) := by decide +kernel
theorem dX7_ruleWorth_11 : decode cX7_ruleWorth 11 = .ok (.invokestatic 31, 3) := by decide +kernel
theorem dX7_ruleWorth_14 : decode cX7_ruleWorth 14 = .ok (.ifCond .ne 12, 3) := by decide +kernel
theorem dX7_ruleWorth_17 : decode cX7_ruleWorth 17 = .ok (.iload_n 3, 1) := by decide +kernel
theorem dX7_ruleWorth_18 : decode cX7_ruleWorth 18 = .ok (.iconst 0, 1) := by decide +kernel
theorem dX7_ruleWorth_19 : decode cX7_ruleWorth 19 = .ok (.iconst 1, 1) := by decide +kernel
theorem dX7_ruleWorth_20 : decode cX7_ruleWorth 20 = .ok (.invokestatic 31, 3) := by decide +kernel
theorem dX7_ruleWorth_23 : decode cX7_ruleWorth 23 = .ok (.ifCond .eq 7, 3) := by decide +kernel
theorem dX7_ruleWorth_26 : decode cX7_ruleWorth 26 = .ok (.iconst 1, 1) := by decide +kernel
theorem dX7_ruleWorth_27 : decode cX7_ruleWorth 27 = .ok (.goto 4, 3) := by decide +kernel
theorem dX7_ruleWorth_30 : decode cX7_ruleWorth 30 = .ok (.iconst 0, 1) := by decide +kernel
theorem dX7_ruleWorth_31 : decode cX7_ruleWorth 31 = .ok (.invokevirtual 110, 3) := by decide +kernel
theorem dX7_ruleWorth_34 : decode cX7_ruleWorth 34 = .ok (.ifCond .eq 5, 3) := by decide +kernel
theorem dX7_ruleWorth_37 : decode cX7_ruleWorth 37 = .ok (.iconst 0, 1) := by decide +kernel
theorem dX7_ruleWorth_38 : decode cX7_ruleWorth 38 = .ok (.ireturn, 1) := by decide +kernel
theorem dX7_ruleWorth_39 : decode cX7_ruleWorth 39 = .ok (.iload_n 2, 1) := by decide +kernel
theorem dX7_ruleWorth_40 : decode cX7_ruleWorth 40 = .ok (.ifCond .eq 14, 3) := by decide +kernel
theorem dX7_ruleWorth_43 : decode cX7_ruleWorth 43 = .ok (.aload_n 0, 1) := by decide +kernel
theorem dX7_ruleWorth_44 : decode cX7_ruleWorth 44 = .ok (.getfield 14, 3) := by decide +kernel
theorem dX7_ruleWorth_47 : decode cX7_ruleWorth 47 = .ok (.iload_n 1, 1) := by decide +kernel
theorem dX7_ruleWorth_48 : decode cX7_ruleWorth 48 = .ok (.aaload, 1) := by decide +kernel
theorem dX7_ruleWorth_49 : decode cX7_ruleWorth 49 = .ok (.iload_n 2, 1) := by decide +kernel
theorem dX7_ruleWorth_50 : decode cX7_ruleWorth 50 = .ok (.iaload, 1) := by decide +kernel
theorem dX7_ruleWorth_51 : decode cX7_ruleWorth 51 = .ok (.ifCond .ne 7, 3) := by decide +kernel
theorem dX7_ruleWorth_54 : decode cX7_ruleWorth 54 = .ok (.iconst (-1), 1) := by decide +kernel
theorem dX7_ruleWorth_55 : decode cX7_ruleWorth 55 = .ok (.goto 11, 3) := by decide +kernel
theorem dX7_ruleWorth_58 : decode cX7_ruleWorth 58 = .ok (.aload_n 0, 1) := by decide +kernel
theorem dX7_ruleWorth_59 : decode cX7_ruleWorth 59 = .ok (.getfield 14, 3) := by decide +kernel
theorem dX7_ruleWorth_62 : decode cX7_ruleWorth 62 = .ok (.iload_n 1, 1) := by decide +kernel
theorem dX7_ruleWorth_63 : decode cX7_ruleWorth 63 = .ok (.aaload, 1) := by decide +kernel
theorem dX7_ruleWorth_64 : decode cX7_ruleWorth 64 = .ok (.iload_n 2, 1) := by decide +kernel
theorem dX7_ruleWorth_65 : decode cX7_ruleWorth 65 = .ok (.iaload, 1) := by decide +kernel
theorem dX7_ruleWorth_66 : decode cX7_ruleWorth 66 = .ok (.ireturn, 1) := by decide +kernel
theorem dX7_addPart_0 : decode cX7_addPart 0 = .ok (.aload_n 0, 1) := by decide +kernel
theorem dX7_addPart_1 : decode cX7_addPart 1 = .ok (.iload_n 1, 1) := by decide +kernel
theorem dX7_addPart_2 : decode cX7_addPart 2 = .ok (.iconst 0, 1) := by decide +kernel
theorem dX7_addPart_3 : decode cX7_addPart 3 = .ok (.iconst 1, 1) := by decide +kernel
theorem dX7_addPart_4 : decode cX7_addPart 4 = .ok (.invokestatic 31, 3) := by decide +kernel
theorem dX7_addPart_7 : decode cX7_addPart 7 = .ok (.iload_n 2, 1) := by decide +kernel
theorem dX7_addPart_8 : decode cX7_addPart 8 = .ok (.iconst 1, 1) := by decide +kernel
theorem dX7_addPart_9 : decode cX7_addPart 9 = .ok (.bipush 20, 2) := by decide +kernel
theorem dX7_addPart_11 : decode cX7_addPart 11 = .ok (.invokestatic 31, 3) := by decide +kernel
theorem dX7_addPart_14 : decode cX7_addPart 14 = .ok (.ifCond .ne 13, 3) := by decide +kernel
theorem dX7_addPart_17 : decode cX7_addPart 17 = .ok (.iload_n 3, 1) := by decide +kernel
theorem dX7_addPart_18 : decode cX7_addPart 18 = .ok (.iconst 1, 1) := by decide +kernel
theorem dX7_addPart_19 : decode cX7_addPart 19 = .ok (.bipush 20, 2) := by decide +kernel
theorem dX7_addPart_21 : decode cX7_addPart 21 = .ok (.invokestatic 31, 3) := by decide +kernel
theorem dX7_addPart_24 : decode cX7_addPart 24 = .ok (.ifCond .eq 7, 3) := by decide +kernel
theorem dX7_addPart_27 : decode cX7_addPart 27 = .ok (.iconst 1, 1) := by decide +kernel
theorem dX7_addPart_28 : decode cX7_addPart 28 = .ok (.goto 4, 3) := by decide +kernel
theorem dX7_addPart_31 : decode cX7_addPart 31 = .ok (.iconst 0, 1) := by decide +kernel
theorem dX7_addPart_32 : decode cX7_addPart 32 = .ok (.invokevirtual 110, 3) := by decide +kernel
theorem dX7_addPart_35 : decode cX7_addPart 35 = .ok (.ifCond .eq 5, 3) := by decide +kernel
theorem dX7_addPart_38 : decode cX7_addPart 38 = .ok (.iconst 0, 1) := by decide +kernel
theorem dX7_addPart_39 : decode cX7_addPart 39 = .ok (.ireturn, 1) := by decide +kernel
theorem dX7_addPart_40 : decode cX7_addPart 40 = .ok (.aload_n 0, 1) := by decide +kernel
theorem dX7_addPart_41 : decode cX7_addPart 41 = .ok (.getfield 17, 3) := by decide +kernel
theorem dX7_addPart_44 : decode cX7_addPart 44 = .ok (.iload_n 1, 1) := by decide +kernel
theorem dX7_addPart_45 : decode cX7_addPart 45 = .ok (.aaload, 1) := by decide +kernel
theorem dX7_addPart_46 : decode cX7_addPart 46 = .ok (.invokestatic 121, 3) := by decide +kernel
theorem dX7_addPart_49 : decode cX7_addPart 49 = .ok (.iload_n 2, 1) := by decide +kernel
theorem dX7_addPart_50 : decode cX7_addPart 50 = .ok (.iload_n 3, 1) := by decide +kernel
theorem dX7_addPart_51 : decode cX7_addPart 51 = .ok (.imul, 1) := by decide +kernel
theorem dX7_addPart_52 : decode cX7_addPart 52 = .ok (.iadd, 1) := by decide +kernel
theorem dX7_addPart_53 : decode cX7_addPart 53 = .ok (.bipush 20, 2) := by decide +kernel
theorem dX7_addPart_55 : decode cX7_addPart 55 = .ok (.if_icmp .le 8, 3) := by decide +kernel
theorem dX7_addPart_58 : decode cX7_addPart 58 = .ok (.aload_n 0, 1) := by decide +kernel
theorem dX7_addPart_59 : decode cX7_addPart 59 = .ok (.invokevirtual 124, 3) := by decide +kernel
theorem dX7_addPart_62 : decode cX7_addPart 62 = .ok (.ireturn, 1) := by decide +kernel
theorem dX7_addPart_63 : decode cX7_addPart 63 = .ok (.aload_n 0, 1) := by decide +kernel
theorem dX7_addPart_64 : decode cX7_addPart 64 = .ok (.getfield 17, 3) := by decide +kernel
theorem dX7_addPart_67 : decode cX7_addPart 67 = .ok (.iload_n 1, 1) := by decide +kernel
theorem dX7_addPart_68 : decode cX7_addPart 68 = .ok (.aaload, 1) := by decide +kernel
theorem dX7_addPart_69 : decode cX7_addPart 69 = .ok (.iload_n 2, 1) := by decide +kernel
theorem dX7_addPart_70 : decode cX7_addPart 70 = .ok (.dup2, 1) := by decide +kernel
theorem dX7_addPart_71 : decode cX7_addPart 71 = .ok (.iaload, 1) := by decide +kernel
theorem dX7_addPart_72 : decode cX7_addPart 72 = .ok (.iload_n 3, 1) := by decide +kernel
theorem dX7_addPart_73 : decode cX7_addPart 73 = .ok (.iadd, 1) := by decide +kernel
theorem dX7_addPart_74 : decode cX7_addPart 74 = .ok (.iastore, 1) := by decide +kernel
theorem dX7_addPart_75 : decode cX7_addPart 75 = .ok (.aload_n 0, 1) := by decide +kernel
theorem dX7_addPart_76 : decode cX7_addPart 76 = .ok (.aload_n 0, 1) := by decide +kernel
theorem dX7_addPart_77 : decode cX7_addPart 77 = .ok (.getfield 17, 3) := by decide +kernel
theorem dX7_addPart_80 : decode cX7_addPart 80 = .ok (.iload_n 1, 1) := by decide +kernel
theorem dX7_addPart_81 : decode cX7_addPart 81 = .ok (.aaload, 1) := by decide +kernel
theorem dX7_addPart_82 : decode cX7_addPart 82 = .ok (.iload_n 2, 1) := by decide +kernel
theorem dX7_addPart_83 : decode cX7_addPart 83 = .ok (.iaload, 1) := by decide +kernel
theorem dX7_addPart_84 : decode cX7_addPart 84 = .ok (.invokevirtual 117, 3) := by decide +kernel
theorem dX7_addPart_87 : decode cX7_addPart 87 = .ok (.ireturn, 1) := by decide +kernel
theorem dX7_takePart_0 : decode cX7_takePart 0 = .ok (.aload_n 0, 1) := by decide +kernel
theorem dX7_takePart_1 : decode cX7_takePart 1 = .ok (.iload_n 1, 1) := by decide +kernel
theorem dX7_takePart_2 : decode cX7_takePart 2 = .ok (.iconst 0, 1) := by decide +kernel
theorem dX7_takePart_3 : decode cX7_takePart 3 = .ok (.iconst 1, 1) := by decide +kernel
theorem dX7_takePart_4 : decode cX7_takePart 4 = .ok (.invokestatic 31, 3) := by decide +kernel
theorem dX7_takePart_7 : decode cX7_takePart 7 = .ok (.iload_n 2, 1) := by decide +kernel
theorem dX7_takePart_8 : decode cX7_takePart 8 = .ok (.iconst 1, 1) := by decide +kernel
theorem dX7_takePart_9 : decode cX7_takePart 9 = .ok (.bipush 20, 2) := by decide +kernel
theorem dX7_takePart_11 : decode cX7_takePart 11 = .ok (.invokestatic 31, 3) := by decide +kernel
theorem dX7_takePart_14 : decode cX7_takePart 14 = .ok (.invokevirtual 110, 3) := by decide +kernel
theorem dX7_takePart_17 : decode cX7_takePart 17 = .ok (.ifCond .eq 5, 3) := by decide +kernel
theorem dX7_takePart_20 : decode cX7_takePart 20 = .ok (.iconst 0, 1) := by decide +kernel
theorem dX7_takePart_21 : decode cX7_takePart 21 = .ok (.ireturn, 1) := by decide +kernel
theorem dX7_takePart_22 : decode cX7_takePart 22 = .ok (.aload_n 0, 1) := by decide +kernel
theorem dX7_takePart_23 : decode cX7_takePart 23 = .ok (.getfield 17, 3) := by decide +kernel
theorem dX7_takePart_26 : decode cX7_takePart 26 = .ok (.iload_n 1, 1) := by decide +kernel
theorem dX7_takePart_27 : decode cX7_takePart 27 = .ok (.aaload, 1) := by decide +kernel
theorem dX7_takePart_28 : decode cX7_takePart 28 = .ok (.iload_n 2, 1) := by decide +kernel
theorem dX7_takePart_29 : decode cX7_takePart 29 = .ok (.iaload, 1) := by decide +kernel
theorem dX7_takePart_30 : decode cX7_takePart 30 = .ok (.ifCond .ne 8, 3) := by decide +kernel
theorem dX7_takePart_33 : decode cX7_takePart 33 = .ok (.aload_n 0, 1) := by decide +kernel
theorem dX7_takePart_34 : decode cX7_takePart 34 = .ok (.invokevirtual 124, 3) := by decide +kernel
theorem dX7_takePart_37 : decode cX7_takePart 37 = .ok (.ireturn, 1) := by decide +kernel
theorem dX7_takePart_38 : decode cX7_takePart 38 = .ok (.aload_n 0, 1) := by decide +kernel
theorem dX7_takePart_39 : decode cX7_takePart 39 = .ok (.getfield 17, 3) := by decide +kernel
theorem dX7_takePart_42 : decode cX7_takePart 42 = .ok (.iload_n 1, 1) := by decide +kernel
theorem dX7_takePart_43 : decode cX7_takePart 43 = .ok (.aaload, 1) := by decide +kernel
theorem dX7_takePart_44 : decode cX7_takePart 44 = .ok (.iload_n 2, 1) := by decide +kernel
theorem dX7_takePart_45 : decode cX7_takePart 45 = .ok (.dup2, 1) := by decide +kernel
theorem dX7_takePart_46 : decode cX7_takePart 46 = .ok (.iaload, 1) := by decide +kernel
theorem dX7_takePart_47 : decode cX7_takePart 47 = .ok (.iconst 1, 1) := by decide +kernel
theorem dX7_takePart_48 : decode cX7_takePart 48 = .ok (.isub, 1) := by decide +kernel
theorem dX7_takePart_49 : decode cX7_takePart 49 = .ok (.iastore, 1) := by decide +kernel
theorem dX7_takePart_50 : decode cX7_takePart 50 = .ok (.aload_n 0, 1) := by decide +kernel
theorem dX7_takePart_51 : decode cX7_takePart 51 = .ok (.aload_n 0, 1) := by decide +kernel
theorem dX7_takePart_52 : decode cX7_takePart 52 = .ok (.getfield 17, 3) := by decide +kernel
theorem dX7_takePart_55 : decode cX7_takePart 55 = .ok (.iload_n 1, 1) := by decide +kernel
theorem dX7_takePart_56 : decode cX7_takePart 56 = .ok (.aaload, 1) := by decide +kernel
theorem dX7_takePart_57 : decode cX7_takePart 57 = .ok (.iload_n 2, 1) := by decide +kernel
theorem dX7_takePart_58 : decode cX7_takePart 58 = .ok (.iaload, 1) := by decide +kernel
theorem dX7_takePart_59 : decode cX7_takePart 59 = .ok (.invokevirtual 117, 3) := by decide +kernel
theorem dX7_takePart_62 : decode cX7_takePart 62 = .ok (.ireturn, 1) := by decide +kernel
theorem dX7_laid_0 : decode cX7_laid 0 = .ok (.iconst 0, 1) := by decide +kernel
theorem dX7_laid_1 : decode cX7_laid 1 = .ok (.istore_n 3, 1) := by decide +kernel
theorem dX7_laid_2 : decode cX7_laid 2 = .ok (.iload_n 3, 1) := by decide +kernel
theorem dX7_laid_3 : decode cX7_laid 3 = .ok (.bipush 20, 2) := by decide +kernel
theorem dX7_laid_5 : decode cX7_laid 5 = .ok (.if_icmp .gt 20, 3) := by decide +kernel
theorem dX7_laid_8 : decode cX7_laid 8 = .ok (.aload_n 0, 1) := by decide +kernel
theorem dX7_laid_9 : decode cX7_laid 9 = .ok (.getfield 17, 3) := by decide +kernel
theorem dX7_laid_12 : decode cX7_laid 12 = .ok (.iload_n 1, 1) := by decide +kernel
theorem dX7_laid_13 : decode cX7_laid 13 = .ok (.aaload, 1) := by decide +kernel
theorem dX7_laid_14 : decode cX7_laid 14 = .ok (.iload_n 3, 1) := by decide +kernel
theorem dX7_laid_15 : decode cX7_laid 15 = .ok (.aload_n 2, 1) := by decide +kernel
theorem dX7_laid_16 : decode cX7_laid 16 = .ok (.iload_n 3, 1) := by decide +kernel
theorem dX7_laid_17 : decode cX7_laid 17 = .ok (.iaload, 1) := by decide +kernel
theorem dX7_laid_18 : decode cX7_laid 18 = .ok (.iastore, 1) := by decide +kernel
theorem dX7_laid_19 : decode cX7_laid 19 = .ok (.iinc 3 1, 3) := by decide +kernel
theorem dX7_laid_22 : decode cX7_laid 22 = .ok (.goto (-20), 3) := by decide +kernel
theorem dX7_laid_25 : decode cX7_laid 25 = .ok (.aload_n 0, 1) := by decide +kernel
theorem dX7_laid_26 : decode cX7_laid 26 = .ok (.aload_n 2, 1) := by decide +kernel
theorem dX7_laid_27 : decode cX7_laid 27 = .ok (.invokestatic 72, 3) := by decide +kernel
theorem dX7_laid_30 : decode cX7_laid 30 = .ok (.invokevirtual 117, 3) := by decide +kernel
theorem dX7_laid_33 : decode cX7_laid 33 = .ok (.ireturn, 1) := by decide +kernel
theorem dX7_layFirst_0 : decode cX7_layFirst 0 = .ok (.aload_n 0, 1) := by decide +kernel
theorem dX7_layFirst_1 : decode cX7_layFirst 1 = .ok (.iload_n 1, 1) := by decide +kernel
theorem dX7_layFirst_2 : decode cX7_layFirst 2 = .ok (.iconst 0, 1) := by decide +kernel
theorem dX7_layFirst_3 : decode cX7_layFirst 3 = .ok (.iconst 1, 1) := by decide +kernel
theorem dX7_layFirst_4 : decode cX7_layFirst 4 = .ok (.invokestatic 31, 3) := by decide +kernel
theorem dX7_layFirst_7 : decode cX7_layFirst 7 = .ok (.iload_n 2, 1) := by decide +kernel
theorem dX7_layFirst_8 : decode cX7_layFirst 8 = .ok (.iconst 0, 1) := by decide +kernel
theorem dX7_layFirst_9 : decode cX7_layFirst 9 = .ok (.bipush 20, 2) := by decide +kernel
theorem dX7_layFirst_11 : decode cX7_layFirst 11 = .ok (.invokestatic 31, 3) := by decide +kernel
theorem dX7_layFirst_14 : decode cX7_layFirst 14 = .ok (.invokevirtual 110, 3) := by decide +kernel
theorem dX7_layFirst_17 : decode cX7_layFirst 17 = .ok (.ifCond .eq 7, 3) := by decide +kernel
theorem dX7_layFirst_20 : decode cX7_layFirst 20 = .ok (.iconst 0, 1) := by decide +kernel
theorem dX7_layFirst_21 : decode cX7_layFirst 21 = .ok (.goto 12, 3) := by decide +kernel
theorem dX7_layFirst_24 : decode cX7_layFirst 24 = .ok (.aload_n 0, 1) := by decide +kernel
theorem dX7_layFirst_25 : decode cX7_layFirst 25 = .ok (.iload_n 1, 1) := by decide +kernel
theorem dX7_layFirst_26 : decode cX7_layFirst 26 = .ok (.iload_n 2, 1) := by decide +kernel
theorem dX7_layFirst_27 : decode cX7_layFirst 27 = .ok (.invokestatic 96, 3) := by decide +kernel
theorem dX7_layFirst_30 : decode cX7_layFirst 30 = .ok (.invokevirtual 165, 3) := by decide +kernel
theorem dX7_layFirst_33 : decode cX7_layFirst 33 = .ok (.ireturn, 1) := by decide +kernel
theorem dX7_next_0 : decode cX7_next 0 = .ok (.aload_n 0, 1) := by decide +kernel
theorem dX7_next_1 : decode cX7_next 1 = .ok (.iload_n 1, 1) := by decide +kernel
theorem dX7_next_2 : decode cX7_next 2 = .ok (.iconst 0, 1) := by decide +kernel
theorem dX7_next_3 : decode cX7_next 3 = .ok (.iconst 1, 1) := by decide +kernel
theorem dX7_next_4 : decode cX7_next 4 = .ok (.invokestatic 31, 3) := by decide +kernel
theorem dX7_next_7 : decode cX7_next 7 = .ok (.iconst 0, 1) := by decide +kernel
theorem dX7_next_8 : decode cX7_next 8 = .ok (.invokevirtual 110, 3) := by decide +kernel
theorem dX7_next_11 : decode cX7_next 11 = .ok (.ifCond .eq 5, 3) := by decide +kernel
theorem dX7_next_14 : decode cX7_next 14 = .ok (.iconst 0, 1) := by decide +kernel
theorem dX7_next_15 : decode cX7_next 15 = .ok (.ireturn, 1) := by decide +kernel
theorem dX7_next_16 : decode cX7_next 16 = .ok (.aload_n 0, 1) := by decide +kernel
theorem dX7_next_17 : decode cX7_next 17 = .ok (.getfield 17, 3) := by decide +kernel
theorem dX7_next_20 : decode cX7_next 20 = .ok (.iload_n 1, 1) := by decide +kernel
theorem dX7_next_21 : decode cX7_next 21 = .ok (.aaload, 1) := by decide +kernel
theorem dX7_next_22 : decode cX7_next 22 = .ok (.invokestatic 104, 3) := by decide +kernel
theorem dX7_next_25 : decode cX7_next 25 = .ok (.ifCond .eq 19, 3) := by decide +kernel
theorem dX7_next_28 : decode cX7_next 28 = .ok (.aload_n 0, 1) := by decide +kernel
theorem dX7_next_29 : decode cX7_next 29 = .ok (.aload_n 0, 1) := by decide +kernel
theorem dX7_next_30 : decode cX7_next 30 = .ok (.getfield 17, 3) := by decide +kernel
theorem dX7_next_33 : decode cX7_next 33 = .ok (.iload_n 1, 1) := by decide +kernel
theorem dX7_next_34 : decode cX7_next 34 = .ok (.aaload, 1) := by decide +kernel
theorem dX7_next_35 : decode cX7_next 35 = .ok (.invokestatic 72, 3) := by decide +kernel
theorem dX7_next_38 : decode cX7_next 38 = .ok (.invokevirtual 117, 3) := by decide +kernel
theorem dX7_next_41 : decode cX7_next 41 = .ok (.goto 7, 3) := by decide +kernel
theorem dX7_next_44 : decode cX7_next 44 = .ok (.aload_n 0, 1) := by decide +kernel
theorem dX7_next_45 : decode cX7_next 45 = .ok (.invokevirtual 124, 3) := by decide +kernel
theorem dX7_next_48 : decode cX7_next 48 = .ok (.ireturn, 1) := by decide +kernel
theorem dX7_turn_0 : decode cX7_turn 0 = .ok (.aload_n 0, 1) := by decide +kernel
theorem dX7_turn_1 : decode cX7_turn 1 = .ok (.iload_n 1, 1) := by decide +kernel
theorem dX7_turn_2 : decode cX7_turn 2 = .ok (.iconst 0, 1) := by decide +kernel
theorem dX7_turn_3 : decode cX7_turn 3 = .ok (.iconst 1, 1) := by decide +kernel
theorem dX7_turn_4 : decode cX7_turn 4 = .ok (.invokestatic 31, 3) := by decide +kernel
theorem dX7_turn_7 : decode cX7_turn 7 = .ok (.iconst 0, 1) := by decide +kernel
theorem dX7_turn_8 : decode cX7_turn 8 = .ok (.invokevirtual 110, 3) := by decide +kernel
theorem dX7_turn_11 : decode cX7_turn 11 = .ok (.ifCond .eq 5, 3) := by decide +kernel
theorem dX7_turn_14 : decode cX7_turn 14 = .ok (.iconst 0, 1) := by decide +kernel
theorem dX7_turn_15 : decode cX7_turn 15 = .ok (.ireturn, 1) := by decide +kernel
theorem dX7_turn_16 : decode cX7_turn 16 = .ok (.aload_n 0, 1) := by decide +kernel
theorem dX7_turn_17 : decode cX7_turn 17 = .ok (.getfield 17, 3) := by decide +kernel
theorem dX7_turn_20 : decode cX7_turn 20 = .ok (.iload_n 1, 1) := by decide +kernel
theorem dX7_turn_21 : decode cX7_turn 21 = .ok (.aaload, 1) := by decide +kernel
theorem dX7_turn_22 : decode cX7_turn 22 = .ok (.invokestatic 169, 3) := by decide +kernel
theorem dX7_turn_25 : decode cX7_turn 25 = .ok (.astore_n 2, 1) := by decide +kernel
theorem dX7_turn_26 : decode cX7_turn 26 = .ok (.aload_n 2, 1) := by decide +kernel
theorem dX7_turn_27 : decode cX7_turn 27 = .ok (.aload_n 0, 1) := by decide +kernel
theorem dX7_turn_28 : decode cX7_turn 28 = .ok (.getfield 17, 3) := by decide +kernel
theorem dX7_turn_31 : decode cX7_turn 31 = .ok (.iload_n 1, 1) := by decide +kernel
theorem dX7_turn_32 : decode cX7_turn 32 = .ok (.aaload, 1) := by decide +kernel
theorem dX7_turn_33 : decode cX7_turn 33 = .ok (.invokestatic 173, 3) := by decide +kernel
theorem dX7_turn_36 : decode cX7_turn 36 = .ok (.ifCond .ne 7, 3) := by decide +kernel
theorem dX7_turn_39 : decode cX7_turn 39 = .ok (.iconst 1, 1) := by decide +kernel
theorem dX7_turn_40 : decode cX7_turn 40 = .ok (.goto 4, 3) := by decide +kernel
theorem dX7_turn_43 : decode cX7_turn 43 = .ok (.iconst 0, 1) := by decide +kernel
theorem dX7_turn_44 : decode cX7_turn 44 = .ok (.istore_n 3, 1) := by decide +kernel
theorem dX7_turn_45 : decode cX7_turn 45 = .ok (.aload_n 0, 1) := by decide +kernel
theorem dX7_turn_46 : decode cX7_turn 46 = .ok (.iload_n 1, 1) := by decide +kernel
theorem dX7_turn_47 : decode cX7_turn 47 = .ok (.aload_n 2, 1) := by decide +kernel
theorem dX7_turn_48 : decode cX7_turn 48 = .ok (.invokevirtual 165, 3) := by decide +kernel
theorem dX7_turn_51 : decode cX7_turn 51 = .ok (.pop, 1) := by decide +kernel
theorem dX7_turn_52 : decode cX7_turn 52 = .ok (.iload_n 3, 1) := by decide +kernel
theorem dX7_turn_53 : decode cX7_turn 53 = .ok (.invokestatic 43, 3) := by decide +kernel
theorem dX7_turn_56 : decode cX7_turn 56 = .ok (.ireturn, 1) := by decide +kernel
theorem dX7_toUnlike_0 : decode cX7_toUnlike 0 = .ok (.aload_n 0, 1) := by decide +kernel
theorem dX7_toUnlike_1 : decode cX7_toUnlike 1 = .ok (.iload_n 1, 1) := by decide +kernel
theorem dX7_toUnlike_2 : decode cX7_toUnlike 2 = .ok (.iconst 0, 1) := by decide +kernel
theorem dX7_toUnlike_3 : decode cX7_toUnlike 3 = .ok (.iconst 1, 1) := by decide +kernel
theorem dX7_toUnlike_4 : decode cX7_toUnlike 4 = .ok (.invokestatic 31, 3) := by decide +kernel
theorem dX7_toUnlike_7 : decode cX7_toUnlike 7 = .ok (.iconst 0, 1) := by decide +kernel
theorem dX7_toUnlike_8 : decode cX7_toUnlike 8 = .ok (.invokevirtual 110, 3) := by decide +kernel
theorem dX7_toUnlike_11 : decode cX7_toUnlike 11 = .ok (.ifCond .eq 5, 3) := by decide +kernel
theorem dX7_toUnlike_14 : decode cX7_toUnlike 14 = .ok (.iconst 0, 1) := by decide +kernel
theorem dX7_toUnlike_15 : decode cX7_toUnlike 15 = .ok (.ireturn, 1) := by decide +kernel
theorem dX7_toUnlike_16 : decode cX7_toUnlike 16 = .ok (.aload_n 0, 1) := by decide +kernel
theorem dX7_toUnlike_17 : decode cX7_toUnlike 17 = .ok (.getfield 17, 3) := by decide +kernel
theorem dX7_toUnlike_20 : decode cX7_toUnlike 20 = .ok (.iload_n 1, 1) := by decide +kernel
theorem dX7_toUnlike_21 : decode cX7_toUnlike 21 = .ok (.aaload, 1) := by decide +kernel
theorem dX7_toUnlike_22 : decode cX7_toUnlike 22 = .ok (.invokestatic 90, 3) := by decide +kernel
theorem dX7_toUnlike_25 : decode cX7_toUnlike 25 = .ok (.ifCond .ne 8, 3) := by decide +kernel
theorem dX7_toUnlike_28 : decode cX7_toUnlike 28 = .ok (.aload_n 0, 1) := by decide +kernel
theorem dX7_toUnlike_29 : decode cX7_toUnlike 29 = .ok (.invokevirtual 124, 3) := by decide +kernel
theorem dX7_toUnlike_32 : decode cX7_toUnlike 32 = .ok (.ireturn, 1) := by decide +kernel
theorem dX7_toUnlike_33 : decode cX7_toUnlike 33 = .ok (.bipush 21, 2) := by decide +kernel
theorem dX7_toUnlike_35 : decode cX7_toUnlike 35 = .ok (.newarray .int, 2) := by decide +kernel
theorem dX7_toUnlike_37 : decode cX7_toUnlike 37 = .ok (.astore_n 2, 1) := by decide +kernel
theorem dX7_toUnlike_38 : decode cX7_toUnlike 38 = .ok (.iconst 1, 1) := by decide +kernel
theorem dX7_toUnlike_39 : decode cX7_toUnlike 39 = .ok (.istore_n 3, 1) := by decide +kernel
theorem dX7_toUnlike_40 : decode cX7_toUnlike 40 = .ok (.iload_n 3, 1) := by decide +kernel
theorem dX7_toUnlike_41 : decode cX7_toUnlike 41 = .ok (.bipush 20, 2) := by decide +kernel
theorem dX7_toUnlike_43 : decode cX7_toUnlike 43 = .ok (.if_icmp .gt 55, 3) := by decide +kernel
theorem dX7_toUnlike_46 : decode cX7_toUnlike 46 = .ok (.iconst 1, 1) := by decide +kernel
theorem dX7_toUnlike_47 : decode cX7_toUnlike 47 = .ok (.istore 4, 2) := by decide +kernel
theorem dX7_toUnlike_49 : decode cX7_toUnlike 49 = .ok (.iload 4, 2) := by decide +kernel
theorem dX7_toUnlike_51 : decode cX7_toUnlike 51 = .ok (.bipush 20, 2) := by decide +kernel
theorem dX7_toUnlike_53 : decode cX7_toUnlike 53 = .ok (.if_icmp .gt 39, 3) := by decide +kernel
theorem dX7_toUnlike_56 : decode cX7_toUnlike 56 = .ok (.aload_n 0, 1) := by decide +kernel
theorem dX7_toUnlike_57 : decode cX7_toUnlike 57 = .ok (.getfield 17, 3) := by decide +kernel
theorem dX7_toUnlike_60 : decode cX7_toUnlike 60 = .ok (.iload_n 1, 1) := by decide +kernel
theorem dX7_toUnlike_61 : decode cX7_toUnlike 61 = .ok (.aaload, 1) := by decide +kernel
theorem dX7_toUnlike_62 : decode cX7_toUnlike 62 = .ok (.iload_n 3, 1) := by decide +kernel
theorem dX7_toUnlike_63 : decode cX7_toUnlike 63 = .ok (.iaload, 1) := by decide +kernel
theorem dX7_toUnlike_64 : decode cX7_toUnlike 64 = .ok (.iload 4, 2) := by decide +kernel
theorem dX7_toUnlike_66 : decode cX7_toUnlike 66 = .ok (.idiv, 1) := by decide +kernel
theorem dX7_toUnlike_67 : decode cX7_toUnlike 67 = .ok (.iconst 2, 1) := by decide +kernel
theorem dX7_toUnlike_68 : decode cX7_toUnlike 68 = .ok (.irem, 1) := by decide +kernel
theorem dX7_toUnlike_69 : decode cX7_toUnlike 69 = .ok (.iconst 1, 1) := by decide +kernel
theorem dX7_toUnlike_70 : decode cX7_toUnlike 70 = .ok (.if_icmp .ne 13, 3) := by decide +kernel
theorem dX7_toUnlike_73 : decode cX7_toUnlike 73 = .ok (.aload_n 2, 1) := by decide +kernel
theorem dX7_toUnlike_74 : decode cX7_toUnlike 74 = .ok (.iload_n 3, 1) := by decide +kernel
theorem dX7_toUnlike_75 : decode cX7_toUnlike 75 = .ok (.iload 4, 2) := by decide +kernel
theorem dX7_toUnlike_77 : decode cX7_toUnlike 77 = .ok (.imul, 1) := by decide +kernel
theorem dX7_toUnlike_78 : decode cX7_toUnlike 78 = .ok (.dup2, 1) := by decide +kernel
theorem dX7_toUnlike_79 : decode cX7_toUnlike 79 = .ok (.iaload, 1) := by decide +kernel
theorem dX7_toUnlike_80 : decode cX7_toUnlike 80 = .ok (.iconst 1, 1) := by decide +kernel
theorem dX7_toUnlike_81 : decode cX7_toUnlike 81 = .ok (.iadd, 1) := by decide +kernel
theorem dX7_toUnlike_82 : decode cX7_toUnlike 82 = .ok (.iastore, 1) := by decide +kernel
theorem dX7_toUnlike_83 : decode cX7_toUnlike 83 = .ok (.iload 4, 2) := by decide +kernel
theorem dX7_toUnlike_85 : decode cX7_toUnlike 85 = .ok (.iconst 2, 1) := by decide +kernel
theorem dX7_toUnlike_86 : decode cX7_toUnlike 86 = .ok (.imul, 1) := by decide +kernel
theorem dX7_toUnlike_87 : decode cX7_toUnlike 87 = .ok (.istore 4, 2) := by decide +kernel
theorem dX7_toUnlike_89 : decode cX7_toUnlike 89 = .ok (.goto (-40), 3) := by decide +kernel
theorem dX7_toUnlike_92 : decode cX7_toUnlike 92 = .ok (.iinc 3 1, 3) := by decide +kernel
theorem dX7_toUnlike_95 : decode cX7_toUnlike 95 = .ok (.goto (-55), 3) := by decide +kernel
theorem dX7_toUnlike_98 : decode cX7_toUnlike 98 = .ok (.aload_n 0, 1) := by decide +kernel
theorem dX7_toUnlike_99 : decode cX7_toUnlike 99 = .ok (.iload_n 1, 1) := by decide +kernel
theorem dX7_toUnlike_100 : decode cX7_toUnlike 100 = .ok (.aload_n 2, 1) := by decide +kernel
theorem dX7_toUnlike_101 : decode cX7_toUnlike 101 = .ok (.invokevirtual 165, 3) := by decide +kernel
theorem dX7_toUnlike_104 : decode cX7_toUnlike 104 = .ok (.ireturn, 1) := by decide +kernel
theorem dX7_toOdd_0 : decode cX7_toOdd 0 = .ok (.aload_n 0, 1) := by decide +kernel
theorem dX7_toOdd_1 : decode cX7_toOdd 1 = .ok (.iload_n 1, 1) := by decide +kernel
theorem dX7_toOdd_2 : decode cX7_toOdd 2 = .ok (.iconst 0, 1) := by decide +kernel
theorem dX7_toOdd_3 : decode cX7_toOdd 3 = .ok (.iconst 1, 1) := by decide +kernel
theorem dX7_toOdd_4 : decode cX7_toOdd 4 = .ok (.invokestatic 31, 3) := by decide +kernel
theorem dX7_toOdd_7 : decode cX7_toOdd 7 = .ok (.iconst 0, 1) := by decide +kernel
theorem dX7_toOdd_8 : decode cX7_toOdd 8 = .ok (.invokevirtual 110, 3) := by decide +kernel
theorem dX7_toOdd_11 : decode cX7_toOdd 11 = .ok (.ifCond .eq 5, 3) := by decide +kernel
theorem dX7_toOdd_14 : decode cX7_toOdd 14 = .ok (.iconst 0, 1) := by decide +kernel
theorem dX7_toOdd_15 : decode cX7_toOdd 15 = .ok (.ireturn, 1) := by decide +kernel
theorem dX7_toOdd_16 : decode cX7_toOdd 16 = .ok (.aload_n 0, 1) := by decide +kernel
theorem dX7_toOdd_17 : decode cX7_toOdd 17 = .ok (.getfield 17, 3) := by decide +kernel
theorem dX7_toOdd_20 : decode cX7_toOdd 20 = .ok (.iload_n 1, 1) := by decide +kernel
theorem dX7_toOdd_21 : decode cX7_toOdd 21 = .ok (.aaload, 1) := by decide +kernel
theorem dX7_toOdd_22 : decode cX7_toOdd 22 = .ok (.invokestatic 86, 3) := by decide +kernel
theorem dX7_toOdd_25 : decode cX7_toOdd 25 = .ok (.ifCond .ne 8, 3) := by decide +kernel
theorem dX7_toOdd_28 : decode cX7_toOdd 28 = .ok (.aload_n 0, 1) := by decide +kernel
theorem dX7_toOdd_29 : decode cX7_toOdd 29 = .ok (.invokevirtual 124, 3) := by decide +kernel
theorem dX7_toOdd_32 : decode cX7_toOdd 32 = .ok (.ireturn, 1) := by decide +kernel
theorem dX7_toOdd_33 : decode cX7_toOdd 33 = .ok (.bipush 21, 2) := by decide +kernel
theorem dX7_toOdd_35 : decode cX7_toOdd 35 = .ok (.newarray .int, 2) := by decide +kernel
theorem dX7_toOdd_37 : decode cX7_toOdd 37 = .ok (.astore_n 2, 1) := by decide +kernel
theorem dX7_toOdd_38 : decode cX7_toOdd 38 = .ok (.iconst 1, 1) := by decide +kernel
theorem dX7_toOdd_39 : decode cX7_toOdd 39 = .ok (.istore_n 3, 1) := by decide +kernel
theorem dX7_toOdd_40 : decode cX7_toOdd 40 = .ok (.iload_n 3, 1) := by decide +kernel
theorem dX7_toOdd_41 : decode cX7_toOdd 41 = .ok (.bipush 20, 2) := by decide +kernel
theorem dX7_toOdd_43 : decode cX7_toOdd 43 = .ok (.if_icmp .gt 50, 3) := by decide +kernel
theorem dX7_toOdd_46 : decode cX7_toOdd 46 = .ok (.iconst 1, 1) := by decide +kernel
theorem dX7_toOdd_47 : decode cX7_toOdd 47 = .ok (.istore 4, 2) := by decide +kernel
theorem dX7_toOdd_49 : decode cX7_toOdd 49 = .ok (.iload_n 3, 1) := by decide +kernel
theorem dX7_toOdd_50 : decode cX7_toOdd 50 = .ok (.iconst 2, 1) := by decide +kernel
theorem dX7_toOdd_51 : decode cX7_toOdd 51 = .ok (.iload 4, 2) := by decide +kernel
theorem dX7_toOdd_53 : decode cX7_toOdd 53 = .ok (.imul, 1) := by decide +kernel
theorem dX7_toOdd_54 : decode cX7_toOdd 54 = .ok (.irem, 1) := by decide +kernel
theorem dX7_toOdd_55 : decode cX7_toOdd 55 = .ok (.ifCond .ne 12, 3) := by decide +kernel
theorem dX7_toOdd_58 : decode cX7_toOdd 58 = .ok (.iload 4, 2) := by decide +kernel
theorem dX7_toOdd_60 : decode cX7_toOdd 60 = .ok (.iconst 2, 1) := by decide +kernel
theorem dX7_toOdd_61 : decode cX7_toOdd 61 = .ok (.imul, 1) := by decide +kernel
theorem dX7_toOdd_62 : decode cX7_toOdd 62 = .ok (.istore 4, 2) := by decide +kernel
theorem dX7_toOdd_64 : decode cX7_toOdd 64 = .ok (.goto (-15), 3) := by decide +kernel
theorem dX7_toOdd_67 : decode cX7_toOdd 67 = .ok (.aload_n 2, 1) := by decide +kernel
theorem dX7_toOdd_68 : decode cX7_toOdd 68 = .ok (.iload_n 3, 1) := by decide +kernel
theorem dX7_toOdd_69 : decode cX7_toOdd 69 = .ok (.iload 4, 2) := by decide +kernel
theorem dX7_toOdd_71 : decode cX7_toOdd 71 = .ok (.idiv, 1) := by decide +kernel
theorem dX7_toOdd_72 : decode cX7_toOdd 72 = .ok (.dup2, 1) := by decide +kernel
theorem dX7_toOdd_73 : decode cX7_toOdd 73 = .ok (.iaload, 1) := by decide +kernel
theorem dX7_toOdd_74 : decode cX7_toOdd 74 = .ok (.iload 4, 2) := by decide +kernel
theorem dX7_toOdd_76 : decode cX7_toOdd 76 = .ok (.aload_n 0, 1) := by decide +kernel
theorem dX7_toOdd_77 : decode cX7_toOdd 77 = .ok (.getfield 17, 3) := by decide +kernel
theorem dX7_toOdd_80 : decode cX7_toOdd 80 = .ok (.iload_n 1, 1) := by decide +kernel
theorem dX7_toOdd_81 : decode cX7_toOdd 81 = .ok (.aaload, 1) := by decide +kernel
theorem dX7_toOdd_82 : decode cX7_toOdd 82 = .ok (.iload_n 3, 1) := by decide +kernel
theorem dX7_toOdd_83 : decode cX7_toOdd 83 = .ok (.iaload, 1) := by decide +kernel
theorem dX7_toOdd_84 : decode cX7_toOdd 84 = .ok (.imul, 1) := by decide +kernel
theorem dX7_toOdd_85 : decode cX7_toOdd 85 = .ok (.iadd, 1) := by decide +kernel
theorem dX7_toOdd_86 : decode cX7_toOdd 86 = .ok (.iastore, 1) := by decide +kernel
theorem dX7_toOdd_87 : decode cX7_toOdd 87 = .ok (.iinc 3 1, 3) := by decide +kernel
theorem dX7_toOdd_90 : decode cX7_toOdd 90 = .ok (.goto (-50), 3) := by decide +kernel
theorem dX7_toOdd_93 : decode cX7_toOdd 93 = .ok (.aload_n 0, 1) := by decide +kernel
theorem dX7_toOdd_94 : decode cX7_toOdd 94 = .ok (.iload_n 1, 1) := by decide +kernel
theorem dX7_toOdd_95 : decode cX7_toOdd 95 = .ok (.aload_n 2, 1) := by decide +kernel
theorem dX7_toOdd_96 : decode cX7_toOdd 96 = .ok (.invokevirtual 165, 3) := by decide +kernel
theorem dX7_toOdd_99 : decode cX7_toOdd 99 = .ok (.ireturn, 1) := by decide +kernel
theorem dX7_copyDesk_0 : decode cX7_copyDesk 0 = .ok (.aload_n 0, 1) := by decide +kernel
theorem dX7_copyDesk_1 : decode cX7_copyDesk 1 = .ok (.iload_n 1, 1) := by decide +kernel
theorem dX7_copyDesk_2 : decode cX7_copyDesk 2 = .ok (.iconst 0, 1) := by decide +kernel
theorem dX7_copyDesk_3 : decode cX7_copyDesk 3 = .ok (.iconst 1, 1) := by decide +kernel
theorem dX7_copyDesk_4 : decode cX7_copyDesk 4 = .ok (.invokestatic 31, 3) := by decide +kernel
theorem dX7_copyDesk_7 : decode cX7_copyDesk 7 = .ok (.iconst 0, 1) := by decide +kernel
theorem dX7_copyDesk_8 : decode cX7_copyDesk 8 = .ok (.invokevirtual 110, 3) := by decide +kernel
theorem dX7_copyDesk_11 : decode cX7_copyDesk 11 = .ok (.ifCond .eq 5, 3) := by decide +kernel
theorem dX7_copyDesk_14 : decode cX7_copyDesk 14 = .ok (.iconst 0, 1) := by decide +kernel
theorem dX7_copyDesk_15 : decode cX7_copyDesk 15 = .ok (.ireturn, 1) := by decide +kernel
theorem dX7_copyDesk_16 : decode cX7_copyDesk 16 = .ok (.aload_n 0, 1) := by decide +kernel
theorem dX7_copyDesk_17 : decode cX7_copyDesk 17 = .ok (.iconst 1, 1) := by decide +kernel
theorem dX7_copyDesk_18 : decode cX7_copyDesk 18 = .ok (.iload_n 1, 1) := by decide +kernel
theorem dX7_copyDesk_19 : decode cX7_copyDesk 19 = .ok (.isub, 1) := by decide +kernel
theorem dX7_copyDesk_20 : decode cX7_copyDesk 20 = .ok (.aload_n 0, 1) := by decide +kernel
theorem dX7_copyDesk_21 : decode cX7_copyDesk 21 = .ok (.getfield 17, 3) := by decide +kernel
theorem dX7_copyDesk_24 : decode cX7_copyDesk 24 = .ok (.iload_n 1, 1) := by decide +kernel
theorem dX7_copyDesk_25 : decode cX7_copyDesk 25 = .ok (.aaload, 1) := by decide +kernel
theorem dX7_copyDesk_26 : decode cX7_copyDesk 26 = .ok (.invokevirtual 165, 3) := by decide +kernel
theorem dX7_copyDesk_29 : decode cX7_copyDesk 29 = .ok (.pop, 1) := by decide +kernel
theorem dX7_copyDesk_30 : decode cX7_copyDesk 30 = .ok (.aload_n 0, 1) := by decide +kernel
theorem dX7_copyDesk_31 : decode cX7_copyDesk 31 = .ok (.getfield 17, 3) := by decide +kernel
theorem dX7_copyDesk_34 : decode cX7_copyDesk 34 = .ok (.iload_n 1, 1) := by decide +kernel
theorem dX7_copyDesk_35 : decode cX7_copyDesk 35 = .ok (.aaload, 1) := by decide +kernel
theorem dX7_copyDesk_36 : decode cX7_copyDesk 36 = .ok (.invokestatic 76, 3) := by decide +kernel
theorem dX7_copyDesk_39 : decode cX7_copyDesk 39 = .ok (.ireturn, 1) := by decide +kernel
theorem dX7_times_0 : decode cX7_times 0 = .ok (.aload_n 0, 1) := by decide +kernel
theorem dX7_times_1 : decode cX7_times 1 = .ok (.iload_n 1, 1) := by decide +kernel
theorem dX7_times_2 : decode cX7_times 2 = .ok (.iconst 0, 1) := by decide +kernel
theorem dX7_times_3 : decode cX7_times 3 = .ok (.iconst 1, 1) := by decide +kernel
theorem dX7_times_4 : decode cX7_times 4 = .ok (.invokestatic 31, 3) := by decide +kernel
theorem dX7_times_7 : decode cX7_times 7 = .ok (.iload_n 2, 1) := by decide +kernel
theorem dX7_times_8 : decode cX7_times 8 = .ok (.iconst 1, 1) := by decide +kernel
theorem dX7_times_9 : decode cX7_times 9 = .ok (.bipush 20, 2) := by decide +kernel
theorem dX7_times_11 : decode cX7_times 11 = .ok (.invokestatic 31, 3) := by decide +kernel
theorem dX7_times_14 : decode cX7_times 14 = .ok (.invokevirtual 110, 3) := by decide +kernel
theorem dX7_times_17 : decode cX7_times 17 = .ok (.ifCond .eq 7, 3) := by decide +kernel
theorem dX7_times_20 : decode cX7_times 20 = .ok (.iconst 0, 1) := by decide +kernel
theorem dX7_times_21 : decode cX7_times 21 = .ok (.goto 11, 3) := by decide +kernel
theorem dX7_times_24 : decode cX7_times 24 = .ok (.aload_n 0, 1) := by decide +kernel
theorem dX7_times_25 : decode cX7_times 25 = .ok (.getfield 17, 3) := by decide +kernel
theorem dX7_times_28 : decode cX7_times 28 = .ok (.iload_n 1, 1) := by decide +kernel
theorem dX7_times_29 : decode cX7_times 29 = .ok (.aaload, 1) := by decide +kernel
theorem dX7_times_30 : decode cX7_times 30 = .ok (.iload_n 2, 1) := by decide +kernel
theorem dX7_times_31 : decode cX7_times 31 = .ok (.iaload, 1) := by decide +kernel
theorem dX7_times_32 : decode cX7_times 32 = .ok (.ireturn, 1) := by decide +kernel
theorem dX7_way_0 : decode cX7_way 0 = .ok (.aload_n 0, 1) := by decide +kernel
theorem dX7_way_1 : decode cX7_way 1 = .ok (.iload_n 1, 1) := by decide +kernel
theorem dX7_way_2 : decode cX7_way 2 = .ok (.iconst 0, 1) := by decide +kernel
theorem dX7_way_3 : decode cX7_way 3 = .ok (.iconst 1, 1) := by decide +kernel
theorem dX7_way_4 : decode cX7_way 4 = .ok (.invokestatic 31, 3) := by decide +kernel
theorem dX7_way_7 : decode cX7_way 7 = .ok (.iload_n 2, 1) := by decide +kernel
theorem dX7_way_8 : decode cX7_way 8 = .ok (.iconst 0, 1) := by decide +kernel
theorem dX7_way_9 : decode cX7_way 9 = .ok (.iconst 2, 1) := by decide +kernel
theorem dX7_way_10 : decode cX7_way 10 = .ok (.invokestatic 31, 3) := by decide +kernel
theorem dX7_way_13 : decode cX7_way 13 = .ok (.invokevirtual 110, 3) := by decide +kernel
theorem dX7_way_16 : decode cX7_way 16 = .ok (.ifCond .eq 5, 3) := by decide +kernel
theorem dX7_way_19 : decode cX7_way 19 = .ok (.iconst 0, 1) := by decide +kernel
theorem dX7_way_20 : decode cX7_way 20 = .ok (.ireturn, 1) := by decide +kernel
theorem dX7_way_21 : decode cX7_way 21 = .ok (.iload_n 2, 1) := by decide +kernel
theorem dX7_way_22 : decode cX7_way 22 = .ok (.ifCond .ne 15, 3) := by decide +kernel
theorem dX7_way_25 : decode cX7_way 25 = .ok (.aload_n 0, 1) := by decide +kernel
theorem dX7_way_26 : decode cX7_way 26 = .ok (.getfield 17, 3) := by decide +kernel
theorem dX7_way_29 : decode cX7_way 29 = .ok (.iload_n 1, 1) := by decide +kernel
theorem dX7_way_30 : decode cX7_way 30 = .ok (.aaload, 1) := by decide +kernel
theorem dX7_way_31 : decode cX7_way 31 = .ok (.invokestatic 121, 3) := by decide +kernel
theorem dX7_way_34 : decode cX7_way 34 = .ok (.goto 29, 3) := by decide +kernel
theorem dX7_way_37 : decode cX7_way 37 = .ok (.iload_n 2, 1) := by decide +kernel
theorem dX7_way_38 : decode cX7_way 38 = .ok (.iconst 1, 1) := by decide +kernel
theorem dX7_way_39 : decode cX7_way 39 = .ok (.if_icmp .ne 15, 3) := by decide +kernel
theorem dX7_way_42 : decode cX7_way 42 = .ok (.aload_n 0, 1) := by decide +kernel
theorem dX7_way_43 : decode cX7_way 43 = .ok (.getfield 17, 3) := by decide +kernel
theorem dX7_way_46 : decode cX7_way 46 = .ok (.iload_n 1, 1) := by decide +kernel
theorem dX7_way_47 : decode cX7_way 47 = .ok (.aaload, 1) := by decide +kernel
theorem dX7_way_48 : decode cX7_way 48 = .ok (.invokestatic 72, 3) := by decide +kernel
theorem dX7_way_51 : decode cX7_way 51 = .ok (.goto 12, 3) := by decide +kernel
theorem dX7_way_54 : decode cX7_way 54 = .ok (.aload_n 0, 1) := by decide +kernel
theorem dX7_way_55 : decode cX7_way 55 = .ok (.getfield 17, 3) := by decide +kernel
theorem dX7_way_58 : decode cX7_way 58 = .ok (.iload_n 1, 1) := by decide +kernel
theorem dX7_way_59 : decode cX7_way 59 = .ok (.aaload, 1) := by decide +kernel
theorem dX7_way_60 : decode cX7_way 60 = .ok (.invokestatic 76, 3) := by decide +kernel
theorem dX7_way_63 : decode cX7_way 63 = .ok (.ireturn, 1) := by decide +kernel
theorem dX7_wayText_0 : decode cX7_wayText 0 = .ok (.aload_n 0, 1) := by decide +kernel
theorem dX7_wayText_1 : decode cX7_wayText 1 = .ok (.iload_n 1, 1) := by decide +kernel
theorem dX7_wayText_2 : decode cX7_wayText 2 = .ok (.iconst 0, 1) := by decide +kernel
theorem dX7_wayText_3 : decode cX7_wayText 3 = .ok (.iconst 1, 1) := by decide +kernel
theorem dX7_wayText_4 : decode cX7_wayText 4 = .ok (.invokestatic 31, 3) := by decide +kernel
theorem dX7_wayText_7 : decode cX7_wayText 7 = .ok (.iconst 0, 1) := by decide +kernel
theorem dX7_wayText_8 : decode cX7_wayText 8 = .ok (.invokevirtual 110, 3) := by decide +kernel
theorem dX7_wayText_11 : decode cX7_wayText 11 = .ok (.ifCond .eq 6, 3) := by decide +kernel
theorem dX7_wayText_14 : decode cX7_wayText 14 = .ok (.ldc 177, 2) := by decide +kernel
theorem dX7_wayText_16 : decode cX7_wayText 16 = .ok (.areturn, 1) := by decide +kernel
theorem dX7_wayText_17 : decode cX7_wayText 17 = .ok (.new 179, 3) := by decide +kernel
theorem dX7_wayText_20 : decode cX7_wayText 20 = .ok (.dup, 1) := by decide +kernel
theorem dX7_wayText_21 : decode cX7_wayText 21 = .ok (.invokespecial 181, 3) := by decide +kernel
theorem dX7_wayText_24 : decode cX7_wayText 24 = .ok (.astore_n 2, 1) := by decide +kernel
theorem dX7_wayText_25 : decode cX7_wayText 25 = .ok (.bipush 20, 2) := by decide +kernel
theorem dX7_wayText_27 : decode cX7_wayText 27 = .ok (.istore_n 3, 1) := by decide +kernel
theorem dX7_wayText_28 : decode cX7_wayText 28 = .ok (.iload_n 3, 1) := by decide +kernel
theorem dX7_wayText_29 : decode cX7_wayText 29 = .ok (.ifCond .le 50, 3) := by decide +kernel
theorem dX7_wayText_32 : decode cX7_wayText 32 = .ok (.aload_n 0, 1) := by decide +kernel
theorem dX7_wayText_33 : decode cX7_wayText 33 = .ok (.getfield 17, 3) := by decide +kernel
theorem dX7_wayText_36 : decode cX7_wayText 36 = .ok (.iload_n 1, 1) := by decide +kernel
theorem dX7_wayText_37 : decode cX7_wayText 37 = .ok (.aaload, 1) := by decide +kernel
theorem dX7_wayText_38 : decode cX7_wayText 38 = .ok (.iload_n 3, 1) := by decide +kernel
theorem dX7_wayText_39 : decode cX7_wayText 39 = .ok (.iaload, 1) := by decide +kernel
theorem dX7_wayText_40 : decode cX7_wayText 40 = .ok (.istore 4, 2) := by decide +kernel
theorem dX7_wayText_42 : decode cX7_wayText 42 = .ok (.iload 4, 2) := by decide +kernel
theorem dX7_wayText_44 : decode cX7_wayText 44 = .ok (.ifCond .le 29, 3) := by decide +kernel
theorem dX7_wayText_47 : decode cX7_wayText 47 = .ok (.aload_n 2, 1) := by decide +kernel
theorem dX7_wayText_48 : decode cX7_wayText 48 = .ok (.invokevirtual 182, 3) := by decide +kernel
theorem dX7_wayText_51 : decode cX7_wayText 51 = .ok (.ifCond .le 10, 3) := by decide +kernel
theorem dX7_wayText_54 : decode cX7_wayText 54 = .ok (.aload_n 2, 1) := by decide +kernel
theorem dX7_wayText_55 : decode cX7_wayText 55 = .ok (.bipush 43, 2) := by decide +kernel
theorem dX7_wayText_57 : decode cX7_wayText 57 = .ok (.invokevirtual 185, 3) := by decide +kernel
theorem dX7_wayText_60 : decode cX7_wayText 60 = .ok (.pop, 1) := by decide +kernel
theorem dX7_wayText_61 : decode cX7_wayText 61 = .ok (.aload_n 2, 1) := by decide +kernel
theorem dX7_wayText_62 : decode cX7_wayText 62 = .ok (.iload_n 3, 1) := by decide +kernel
theorem dX7_wayText_63 : decode cX7_wayText 63 = .ok (.invokevirtual 189, 3) := by decide +kernel
theorem dX7_wayText_66 : decode cX7_wayText 66 = .ok (.pop, 1) := by decide +kernel
theorem dX7_wayText_67 : decode cX7_wayText 67 = .ok (.iinc 4 (-1), 3) := by decide +kernel
theorem dX7_wayText_70 : decode cX7_wayText 70 = .ok (.goto (-28), 3) := by decide +kernel
theorem dX7_wayText_73 : decode cX7_wayText 73 = .ok (.iinc 3 (-1), 3) := by decide +kernel
theorem dX7_wayText_76 : decode cX7_wayText 76 = .ok (.goto (-48), 3) := by decide +kernel
theorem dX7_wayText_79 : decode cX7_wayText 79 = .ok (.aload_n 2, 1) := by decide +kernel
theorem dX7_wayText_80 : decode cX7_wayText 80 = .ok (.invokevirtual 192, 3) := by decide +kernel
theorem dX7_wayText_83 : decode cX7_wayText 83 = .ok (.areturn, 1) := by decide +kernel
theorem dX7_isOf_0 : decode cX7_isOf 0 = .ok (.aload_n 0, 1) := by decide +kernel
theorem dX7_isOf_1 : decode cX7_isOf 1 = .ok (.iload_n 1, 1) := by decide +kernel
theorem dX7_isOf_2 : decode cX7_isOf 2 = .ok (.iconst 0, 1) := by decide +kernel
theorem dX7_isOf_3 : decode cX7_isOf 3 = .ok (.iconst 1, 1) := by decide +kernel
theorem dX7_isOf_4 : decode cX7_isOf 4 = .ok (.invokestatic 31, 3) := by decide +kernel
theorem dX7_isOf_7 : decode cX7_isOf 7 = .ok (.iload_n 2, 1) := by decide +kernel
theorem dX7_isOf_8 : decode cX7_isOf 8 = .ok (.iconst 0, 1) := by decide +kernel
theorem dX7_isOf_9 : decode cX7_isOf 9 = .ok (.bipush 7, 2) := by decide +kernel
theorem dX7_isOf_11 : decode cX7_isOf 11 = .ok (.invokestatic 31, 3) := by decide +kernel
theorem dX7_isOf_14 : decode cX7_isOf 14 = .ok (.ifCond .ne 13, 3) := by decide +kernel
theorem dX7_isOf_17 : decode cX7_isOf 17 = .ok (.iload_n 3, 1) := by decide +kernel
theorem dX7_isOf_18 : decode cX7_isOf 18 = .ok (.iconst 0, 1) := by decide +kernel
theorem dX7_isOf_19 : decode cX7_isOf 19 = .ok (.bipush 20, 2) := by decide +kernel
theorem dX7_isOf_21 : decode cX7_isOf 21 = .ok (.invokestatic 31, 3) := by decide +kernel
theorem dX7_isOf_24 : decode cX7_isOf 24 = .ok (.ifCond .eq 7, 3) := by decide +kernel
theorem dX7_isOf_27 : decode cX7_isOf 27 = .ok (.iconst 1, 1) := by decide +kernel
theorem dX7_isOf_28 : decode cX7_isOf 28 = .ok (.goto 4, 3) := by decide +kernel
theorem dX7_isOf_31 : decode cX7_isOf 31 = .ok (.iconst 0, 1) := by decide +kernel
theorem dX7_isOf_32 : decode cX7_isOf 32 = .ok (.invokevirtual 110, 3) := by decide +kernel
theorem dX7_isOf_35 : decode cX7_isOf 35 = .ok (.ifCond .ne 21, 3) := by decide +kernel
theorem dX7_isOf_38 : decode cX7_isOf 38 = .ok (.aload_n 0, 1) := by decide +kernel
theorem dX7_isOf_39 : decode cX7_isOf 39 = .ok (.getfield 17, 3) := by decide +kernel
theorem dX7_isOf_42 : decode cX7_isOf 42 = .ok (.iload_n 1, 1) := by decide +kernel
theorem dX7_isOf_43 : decode cX7_isOf 43 = .ok (.aaload, 1) := by decide +kernel
theorem dX7_isOf_44 : decode cX7_isOf 44 = .ok (.iload_n 2, 1) := by decide +kernel
theorem dX7_isOf_45 : decode cX7_isOf 45 = .ok (.iload_n 3, 1) := by decide +kernel
theorem dX7_isOf_46 : decode cX7_isOf 46 = .ok (.invokestatic 100, 3) := by decide +kernel
theorem dX7_isOf_49 : decode cX7_isOf 49 = .ok (.ifCond .eq 7, 3) := by decide +kernel
theorem dX7_isOf_52 : decode cX7_isOf 52 = .ok (.iconst 1, 1) := by decide +kernel
theorem dX7_isOf_53 : decode cX7_isOf 53 = .ok (.goto 4, 3) := by decide +kernel
theorem dX7_isOf_56 : decode cX7_isOf 56 = .ok (.iconst 0, 1) := by decide +kernel
theorem dX7_isOf_57 : decode cX7_isOf 57 = .ok (.ireturn, 1) := by decide +kernel
theorem dX7_isSameWay_0 : decode cX7_isSameWay 0 = .ok (.aload_n 0, 1) := by decide +kernel
theorem dX7_isSameWay_1 : decode cX7_isSameWay 1 = .ok (.iconst 0, 1) := by decide +kernel
theorem dX7_isSameWay_2 : decode cX7_isSameWay 2 = .ok (.putfield 27, 3) := by decide +kernel
theorem dX7_isSameWay_5 : decode cX7_isSameWay 5 = .ok (.aload_n 0, 1) := by decide +kernel
theorem dX7_isSameWay_6 : decode cX7_isSameWay 6 = .ok (.getfield 17, 3) := by decide +kernel
theorem dX7_isSameWay_9 : decode cX7_isSameWay 9 = .ok (.iconst 0, 1) := by decide +kernel
theorem dX7_isSameWay_10 : decode cX7_isSameWay 10 = .ok (.aaload, 1) := by decide +kernel
theorem dX7_isSameWay_11 : decode cX7_isSameWay 11 = .ok (.aload_n 0, 1) := by decide +kernel
theorem dX7_isSameWay_12 : decode cX7_isSameWay 12 = .ok (.getfield 17, 3) := by decide +kernel
theorem dX7_isSameWay_15 : decode cX7_isSameWay 15 = .ok (.iconst 1, 1) := by decide +kernel
theorem dX7_isSameWay_16 : decode cX7_isSameWay 16 = .ok (.aaload, 1) := by decide +kernel
theorem dX7_isSameWay_17 : decode cX7_isSameWay 17 = .ok (.invokestatic 173, 3) := by decide +kernel
theorem dX7_isSameWay_20 : decode cX7_isSameWay 20 = .ok (.ireturn, 1) := by decide +kernel
theorem dX7_tally_0 : decode cX7_tally 0 = .ok (.aload_n 0, 1) := by decide +kernel
theorem dX7_tally_1 : decode cX7_tally 1 = .ok (.iload_n 1, 1) := by decide +kernel
theorem dX7_tally_2 : decode cX7_tally 2 = .ok (.iconst 0, 1) := by decide +kernel
theorem dX7_tally_3 : decode cX7_tally 3 = .ok (.iconst 5, 1) := by decide +kernel
theorem dX7_tally_4 : decode cX7_tally 4 = .ok (.invokestatic 31, 3) := by decide +kernel
theorem dX7_tally_7 : decode cX7_tally 7 = .ok (.iconst 0, 1) := by decide +kernel
theorem dX7_tally_8 : decode cX7_tally 8 = .ok (.invokevirtual 110, 3) := by decide +kernel
theorem dX7_tally_11 : decode cX7_tally 11 = .ok (.ifCond .eq 7, 3) := by decide +kernel
theorem dX7_tally_14 : decode cX7_tally 14 = .ok (.iconst 0, 1) := by decide +kernel
theorem dX7_tally_15 : decode cX7_tally 15 = .ok (.goto 9, 3) := by decide +kernel
theorem dX7_tally_18 : decode cX7_tally 18 = .ok (.aload_n 0, 1) := by decide +kernel
theorem dX7_tally_19 : decode cX7_tally 19 = .ok (.getfield 20, 3) := by decide +kernel
theorem dX7_tally_22 : decode cX7_tally 22 = .ok (.iload_n 1, 1) := by decide +kernel
theorem dX7_tally_23 : decode cX7_tally 23 = .ok (.iaload, 1) := by decide +kernel
theorem dX7_tally_24 : decode cX7_tally 24 = .ok (.ireturn, 1) := by decide +kernel
theorem dX7_knock_0 : decode cX7_knock 0 = .ok (.aload_n 0, 1) := by decide +kernel
theorem dX7_knock_1 : decode cX7_knock 1 = .ok (.iconst 0, 1) := by decide +kernel
theorem dX7_knock_2 : decode cX7_knock 2 = .ok (.putfield 27, 3) := by decide +kernel
theorem dX7_knock_5 : decode cX7_knock 5 = .ok (.aload_n 0, 1) := by decide +kernel
theorem dX7_knock_6 : decode cX7_knock 6 = .ok (.getfield 20, 3) := by decide +kernel
theorem dX7_knock_9 : decode cX7_knock 9 = .ok (.iconst 5, 1) := by decide +kernel
theorem dX7_knock_10 : decode cX7_knock 10 = .ok (.dup2, 1) := by decide +kernel
theorem dX7_knock_11 : decode cX7_knock 11 = .ok (.iaload, 1) := by decide +kernel
theorem dX7_knock_12 : decode cX7_knock 12 = .ok (.iconst 1, 1) := by decide +kernel
theorem dX7_knock_13 : decode cX7_knock 13 = .ok (.iadd, 1) := by decide +kernel
theorem dX7_knock_14 : decode cX7_knock 14 = .ok (.iastore, 1) := by decide +kernel
theorem dX7_knock_15 : decode cX7_knock 15 = .ok (.aload_n 0, 1) := by decide +kernel
theorem dX7_knock_16 : decode cX7_knock 16 = .ok (.getfield 20, 3) := by decide +kernel
theorem dX7_knock_19 : decode cX7_knock 19 = .ok (.iconst 5, 1) := by decide +kernel
theorem dX7_knock_20 : decode cX7_knock 20 = .ok (.iaload, 1) := by decide +kernel
theorem dX7_knock_21 : decode cX7_knock 21 = .ok (.ireturn, 1) := by decide +kernel
theorem dX7_isSound_0 : decode cX7_isSound 0 = .ok (.aload_n 0, 1) := by decide +kernel
theorem dX7_isSound_1 : decode cX7_isSound 1 = .ok (.iload_n 1, 1) := by decide +kernel
theorem dX7_isSound_2 : decode cX7_isSound 2 = .ok (.iconst 0, 1) := by decide +kernel
theorem dX7_isSound_3 : decode cX7_isSound 3 = .ok (.iconst 2, 1) := by decide +kernel
theorem dX7_isSound_4 : decode cX7_isSound 4 = .ok (.invokestatic 31, 3) := by decide +kernel
theorem dX7_isSound_7 : decode cX7_isSound 7 = .ok (.iconst 0, 1) := by decide +kernel
theorem dX7_isSound_8 : decode cX7_isSound 8 = .ok (.invokevirtual 110, 3) := by decide +kernel
theorem dX7_isSound_11 : decode cX7_isSound 11 = .ok (.ifCond .eq 5, 3) := by decide +kernel
theorem dX7_isSound_14 : decode cX7_isSound 14 = .ok (.iconst 0, 1) := by decide +kernel
theorem dX7_isSound_15 : decode cX7_isSound 15 = .ok (.ireturn, 1) := by decide +kernel
theorem dX7_isSound_16 : decode cX7_isSound 16 = .ok (.aload_n 0, 1) := by decide +kernel
theorem dX7_isSound_17 : decode cX7_isSound 17 = .ok (.getfield 20, 3) := by decide +kernel
theorem dX7_isSound_20 : decode cX7_isSound 20 = .ok (.iconst 1, 1) := by decide +kernel
theorem dX7_isSound_21 : decode cX7_isSound 21 = .ok (.iaload, 1) := by decide +kernel
theorem dX7_isSound_22 : decode cX7_isSound 22 = .ok (.aload_n 0, 1) := by decide +kernel
theorem dX7_isSound_23 : decode cX7_isSound 23 = .ok (.getfield 20, 3) := by decide +kernel
theorem dX7_isSound_26 : decode cX7_isSound 26 = .ok (.iconst 2, 1) := by decide +kernel
theorem dX7_isSound_27 : decode cX7_isSound 27 = .ok (.iaload, 1) := by decide +kernel
theorem dX7_isSound_28 : decode cX7_isSound 28 = .ok (.aload_n 0, 1) := by decide +kernel
theorem dX7_isSound_29 : decode cX7_isSound 29 = .ok (.getfield 20, 3) := by decide +kernel
theorem dX7_isSound_32 : decode cX7_isSound 32 = .ok (.iconst 3, 1) := by decide +kernel
theorem dX7_isSound_33 : decode cX7_isSound 33 = .ok (.iaload, 1) := by decide +kernel
theorem dX7_isSound_34 : decode cX7_isSound 34 = .ok (.iadd, 1) := by decide +kernel
theorem dX7_isSound_35 : decode cX7_isSound 35 = .ok (.if_icmp .ne 7, 3) := by decide +kernel
theorem dX7_isSound_38 : decode cX7_isSound 38 = .ok (.iconst 1, 1) := by decide +kernel
theorem dX7_isSound_39 : decode cX7_isSound 39 = .ok (.goto 4, 3) := by decide +kernel
theorem dX7_isSound_42 : decode cX7_isSound 42 = .ok (.iconst 0, 1) := by decide +kernel
theorem dX7_isSound_43 : decode cX7_isSound 43 = .ok (.istore_n 2, 1) := by decide +kernel
theorem dX7_isSound_44 : decode cX7_isSound 44 = .ok (.iconst 0, 1) := by decide +kernel
theorem dX7_isSound_45 : decode cX7_isSound 45 = .ok (.istore_n 3, 1) := by decide +kernel
theorem dX7_isSound_46 : decode cX7_isSound 46 = .ok (.iconst 0, 1) := by decide +kernel
theorem dX7_isSound_47 : decode cX7_isSound 47 = .ok (.istore 4, 2) := by decide +kernel
theorem dX7_isSound_49 : decode cX7_isSound 49 = .ok (.iload 4, 2) := by decide +kernel
theorem dX7_isSound_51 : decode cX7_isSound 51 = .ok (.bipush 6, 2) := by decide +kernel
theorem dX7_isSound_53 : decode cX7_isSound 53 = .ok (.if_icmp .ge 108, 3) := by decide +kernel
theorem dX7_isSound_56 : decode cX7_isSound 56 = .ok (.iconst 1, 1) := by decide +kernel
theorem dX7_isSound_57 : decode cX7_isSound 57 = .ok (.istore 5, 2) := by decide +kernel
theorem dX7_isSound_59 : decode cX7_isSound 59 = .ok (.iload 5, 2) := by decide +kernel
theorem dX7_isSound_61 : decode cX7_isSound 61 = .ok (.bipush 20, 2) := by decide +kernel
theorem dX7_isSound_63 : decode cX7_isSound 63 = .ok (.if_icmp .gt 92, 3) := by decide +kernel
theorem dX7_isSound_66 : decode cX7_isSound 66 = .ok (.iload 4, 2) := by decide +kernel
theorem dX7_isSound_68 : decode cX7_isSound 68 = .ok (.iload 5, 2) := by decide +kernel
theorem dX7_isSound_70 : decode cX7_isSound 70 = .ok (.invokestatic 64, 3) := by decide +kernel
theorem dX7_isSound_73 : decode cX7_isSound 73 = .ok (.astore 6, 2) := by decide +kernel
theorem dX7_isSound_75 : decode cX7_isSound 75 = .ok (.iconst 1, 1) := by decide +kernel
theorem dX7_isSound_76 : decode cX7_isSound 76 = .ok (.istore 7, 2) := by decide +kernel
theorem dX7_isSound_78 : decode cX7_isSound 78 = .ok (.iload 7, 2) := by decide +kernel
theorem dX7_isSound_80 : decode cX7_isSound 80 = .ok (.bipush 20, 2) := by decide +kernel
theorem dX7_isSound_82 : decode cX7_isSound 82 = .ok (.if_icmp .gt 67, 3) := by decide +kernel
theorem dX7_isSound_85 : decode cX7_isSound 85 = .ok (.aload_n 0, 1) := by decide +kernel
theorem dX7_isSound_86 : decode cX7_isSound 86 = .ok (.iload_n 1, 1) := by decide +kernel
theorem dX7_isSound_87 : decode cX7_isSound 87 = .ok (.iload 4, 2) := by decide +kernel
theorem dX7_isSound_89 : decode cX7_isSound 89 = .ok (.iload 7, 2) := by decide +kernel
theorem dX7_isSound_91 : decode cX7_isSound 91 = .ok (.iload 5, 2) := by decide +kernel
theorem dX7_isSound_93 : decode cX7_isSound 93 = .ok (.invokevirtual 131, 3) := by decide +kernel
theorem dX7_isSound_96 : decode cX7_isSound 96 = .ok (.istore 8, 2) := by decide +kernel
theorem dX7_isSound_98 : decode cX7_isSound 98 = .ok (.iload_n 3, 1) := by decide +kernel
theorem dX7_isSound_99 : decode cX7_isSound 99 = .ok (.iload 8, 2) := by decide +kernel
theorem dX7_isSound_101 : decode cX7_isSound 101 = .ok (.ifCond .lt 7, 3) := by decide +kernel
theorem dX7_isSound_104 : decode cX7_isSound 104 = .ok (.iconst 1, 1) := by decide +kernel
theorem dX7_isSound_105 : decode cX7_isSound 105 = .ok (.goto 4, 3) := by decide +kernel
theorem dX7_isSound_108 : decode cX7_isSound 108 = .ok (.iconst 0, 1) := by decide +kernel
theorem dX7_isSound_109 : decode cX7_isSound 109 = .ok (.invokestatic 43, 3) := by decide +kernel
theorem dX7_isSound_112 : decode cX7_isSound 112 = .ok (.iadd, 1) := by decide +kernel
theorem dX7_isSound_113 : decode cX7_isSound 113 = .ok (.istore_n 3, 1) := by decide +kernel
theorem dX7_isSound_114 : decode cX7_isSound 114 = .ok (.iload_n 2, 1) := by decide +kernel
theorem dX7_isSound_115 : decode cX7_isSound 115 = .ok (.iload 8, 2) := by decide +kernel
theorem dX7_isSound_117 : decode cX7_isSound 117 = .ok (.ifCond .lt 19, 3) := by decide +kernel
theorem dX7_isSound_120 : decode cX7_isSound 120 = .ok (.iload 8, 2) := by decide +kernel
theorem dX7_isSound_122 : decode cX7_isSound 122 = .ok (.aload 6, 2) := by decide +kernel
theorem dX7_isSound_124 : decode cX7_isSound 124 = .ok (.iload 4, 2) := by decide +kernel
theorem dX7_isSound_126 : decode cX7_isSound 126 = .ok (.iload 7, 2) := by decide +kernel
theorem dX7_isSound_128 : decode cX7_isSound 128 = .ok (.iload 5, 2) := by decide +kernel
theorem dX7_isSound_130 : decode cX7_isSound 130 = .ok (.invokestatic 68, 3) := by decide +kernel
theorem dX7_isSound_133 : decode cX7_isSound 133 = .ok (.if_icmp .ne 7, 3) := by decide +kernel
theorem dX7_isSound_136 : decode cX7_isSound 136 = .ok (.iconst 1, 1) := by decide +kernel
theorem dX7_isSound_137 : decode cX7_isSound 137 = .ok (.goto 4, 3) := by decide +kernel
theorem dX7_isSound_140 : decode cX7_isSound 140 = .ok (.iconst 0, 1) := by decide +kernel
theorem dX7_isSound_141 : decode cX7_isSound 141 = .ok (.iand, 1) := by decide +kernel
theorem dX7_isSound_142 : decode cX7_isSound 142 = .ok (.istore_n 2, 1) := by decide +kernel
theorem dX7_isSound_143 : decode cX7_isSound 143 = .ok (.iinc 7 1, 3) := by decide +kernel
theorem dX7_isSound_146 : decode cX7_isSound 146 = .ok (.goto (-68), 3) := by decide +kernel
theorem dX7_isSound_149 : decode cX7_isSound 149 = .ok (.iinc 5 1, 3) := by decide +kernel
theorem dX7_isSound_152 : decode cX7_isSound 152 = .ok (.goto (-93), 3) := by decide +kernel
theorem dX7_isSound_155 : decode cX7_isSound 155 = .ok (.iinc 4 1, 3) := by decide +kernel
theorem dX7_isSound_158 : decode cX7_isSound 158 = .ok (.goto (-109), 3) := by decide +kernel
theorem dX7_isSound_161 : decode cX7_isSound 161 = .ok (.iload_n 2, 1) := by decide +kernel
theorem dX7_isSound_162 : decode cX7_isSound 162 = .ok (.ifCond .eq 17, 3) := by decide +kernel
theorem dX7_isSound_165 : decode cX7_isSound 165 = .ok (.iload_n 3, 1) := by decide +kernel
theorem dX7_isSound_166 : decode cX7_isSound 166 = .ok (.aload_n 0, 1) := by decide +kernel
theorem dX7_isSound_167 : decode cX7_isSound 167 = .ok (.iload_n 1, 1) := by decide +kernel
theorem dX7_isSound_168 : decode cX7_isSound 168 = .ok (.iconst 0, 1) := by decide +kernel
theorem dX7_isSound_169 : decode cX7_isSound 169 = .ok (.invokevirtual 153, 3) := by decide +kernel
theorem dX7_isSound_172 : decode cX7_isSound 172 = .ok (.if_icmp .ne 7, 3) := by decide +kernel
theorem dX7_isSound_175 : decode cX7_isSound 175 = .ok (.iconst 1, 1) := by decide +kernel
theorem dX7_isSound_176 : decode cX7_isSound 176 = .ok (.goto 4, 3) := by decide +kernel
theorem dX7_isSound_179 : decode cX7_isSound 179 = .ok (.iconst 0, 1) := by decide +kernel
theorem dX7_isSound_180 : decode cX7_isSound 180 = .ok (.ireturn, 1) := by decide +kernel
theorem dX7_digest_0 : decode cX7_digest 0 = .ok (.aload_n 0, 1) := by decide +kernel
theorem dX7_digest_1 : decode cX7_digest 1 = .ok (.iconst 0, 1) := by decide +kernel
theorem dX7_digest_2 : decode cX7_digest 2 = .ok (.putfield 27, 3) := by decide +kernel
theorem dX7_digest_5 : decode cX7_digest 5 = .ok (.ldc2_w 196, 3) := by decide +kernel
theorem dX7_digest_8 : decode cX7_digest 8 = .ok (.lstore_n 1, 1) := by decide +kernel
theorem dX7_digest_9 : decode cX7_digest 9 = .ok (.iconst 0, 1) := by decide +kernel
theorem dX7_digest_10 : decode cX7_digest 10 = .ok (.istore_n 3, 1) := by decide +kernel
theorem dX7_digest_11 : decode cX7_digest 11 = .ok (.iload_n 3, 1) := by decide +kernel
theorem dX7_digest_12 : decode cX7_digest 12 = .ok (.iconst 3, 1) := by decide +kernel
theorem dX7_digest_13 : decode cX7_digest 13 = .ok (.if_icmp .ge 35, 3) := by decide +kernel
theorem dX7_digest_16 : decode cX7_digest 16 = .ok (.ldc2_w 198, 3) := by decide +kernel
theorem dX7_digest_19 : decode cX7_digest 19 = .ok (.ldc2_w 198, 3) := by decide +kernel
theorem dX7_digest_22 : decode cX7_digest 22 = .ok (.lload_n 1, 1) := by decide +kernel
theorem dX7_digest_23 : decode cX7_digest 23 = .ok (.lmul, 1) := by decide +kernel
theorem dX7_digest_24 : decode cX7_digest 24 = .ok (.aload_n 0, 1) := by decide +kernel
theorem dX7_digest_25 : decode cX7_digest 25 = .ok (.iload_n 3, 1) := by decide +kernel
theorem dX7_digest_26 : decode cX7_digest 26 = .ok (.iconst 0, 1) := by decide +kernel
theorem dX7_digest_27 : decode cX7_digest 27 = .ok (.invokevirtual 153, 3) := by decide +kernel
theorem dX7_digest_30 : decode cX7_digest 30 = .ok (.i2l, 1) := by decide +kernel
theorem dX7_digest_31 : decode cX7_digest 31 = .ok (.ladd, 1) := by decide +kernel
theorem dX7_digest_32 : decode cX7_digest 32 = .ok (.lmul, 1) := by decide +kernel
theorem dX7_digest_33 : decode cX7_digest 33 = .ok (.aload_n 0, 1) := by decide +kernel
theorem dX7_digest_34 : decode cX7_digest 34 = .ok (.iload_n 3, 1) := by decide +kernel
theorem dX7_digest_35 : decode cX7_digest 35 = .ok (.iconst 1, 1) := by decide +kernel
theorem dX7_digest_36 : decode cX7_digest 36 = .ok (.invokevirtual 153, 3) := by decide +kernel
theorem dX7_digest_39 : decode cX7_digest 39 = .ok (.i2l, 1) := by decide +kernel
theorem dX7_digest_40 : decode cX7_digest 40 = .ok (.ladd, 1) := by decide +kernel
theorem dX7_digest_41 : decode cX7_digest 41 = .ok (.lstore_n 1, 1) := by decide +kernel
theorem dX7_digest_42 : decode cX7_digest 42 = .ok (.iinc 3 1, 3) := by decide +kernel
theorem dX7_digest_45 : decode cX7_digest 45 = .ok (.goto (-34), 3) := by decide +kernel
theorem dX7_digest_48 : decode cX7_digest 48 = .ok (.iconst 0, 1) := by decide +kernel
theorem dX7_digest_49 : decode cX7_digest 49 = .ok (.istore_n 3, 1) := by decide +kernel
theorem dX7_digest_50 : decode cX7_digest 50 = .ok (.iload_n 3, 1) := by decide +kernel
theorem dX7_digest_51 : decode cX7_digest 51 = .ok (.iconst 3, 1) := by decide +kernel
theorem dX7_digest_52 : decode cX7_digest 52 = .ok (.if_icmp .ge 35, 3) := by decide +kernel
theorem dX7_digest_55 : decode cX7_digest 55 = .ok (.ldc2_w 198, 3) := by decide +kernel
theorem dX7_digest_58 : decode cX7_digest 58 = .ok (.ldc2_w 198, 3) := by decide +kernel
theorem dX7_digest_61 : decode cX7_digest 61 = .ok (.lload_n 1, 1) := by decide +kernel
theorem dX7_digest_62 : decode cX7_digest 62 = .ok (.lmul, 1) := by decide +kernel
theorem dX7_digest_63 : decode cX7_digest 63 = .ok (.aload_n 0, 1) := by decide +kernel
theorem dX7_digest_64 : decode cX7_digest 64 = .ok (.iload_n 3, 1) := by decide +kernel
theorem dX7_digest_65 : decode cX7_digest 65 = .ok (.iconst 0, 1) := by decide +kernel
theorem dX7_digest_66 : decode cX7_digest 66 = .ok (.invokevirtual 162, 3) := by decide +kernel
theorem dX7_digest_69 : decode cX7_digest 69 = .ok (.i2l, 1) := by decide +kernel
theorem dX7_digest_70 : decode cX7_digest 70 = .ok (.ladd, 1) := by decide +kernel
theorem dX7_digest_71 : decode cX7_digest 71 = .ok (.lmul, 1) := by decide +kernel
theorem dX7_digest_72 : decode cX7_digest 72 = .ok (.aload_n 0, 1) := by decide +kernel
theorem dX7_digest_73 : decode cX7_digest 73 = .ok (.iload_n 3, 1) := by decide +kernel
theorem dX7_digest_74 : decode cX7_digest 74 = .ok (.iconst 1, 1) := by decide +kernel
theorem dX7_digest_75 : decode cX7_digest 75 = .ok (.invokevirtual 162, 3) := by decide +kernel
theorem dX7_digest_78 : decode cX7_digest 78 = .ok (.i2l, 1) := by decide +kernel
theorem dX7_digest_79 : decode cX7_digest 79 = .ok (.ladd, 1) := by decide +kernel
theorem dX7_digest_80 : decode cX7_digest 80 = .ok (.lstore_n 1, 1) := by decide +kernel
theorem dX7_digest_81 : decode cX7_digest 81 = .ok (.iinc 3 1, 3) := by decide +kernel
theorem dX7_digest_84 : decode cX7_digest 84 = .ok (.goto (-34), 3) := by decide +kernel
theorem dX7_digest_87 : decode cX7_digest 87 = .ok (.aload_n 0, 1) := by decide +kernel
theorem dX7_digest_88 : decode cX7_digest 88 = .ok (.getfield 17, 3) := by decide +kernel
theorem dX7_digest_91 : decode cX7_digest 91 = .ok (.astore_n 3, 1) := by decide +kernel
theorem dX7_digest_92 : decode cX7_digest 92 = .ok (.aload_n 3, 1) := by decide +kernel
theorem dX7_digest_93 : decode cX7_digest 93 = .ok (.arraylength, 1) := by decide +kernel
theorem dX7_digest_94 : decode cX7_digest 94 = .ok (.istore 4, 2) := by decide +kernel
theorem dX7_digest_96 : decode cX7_digest 96 = .ok (.iconst 0, 1) := by decide +kernel
theorem dX7_digest_97 : decode cX7_digest 97 = .ok (.istore 5, 2) := by decide +kernel
theorem dX7_digest_99 : decode cX7_digest 99 = .ok (.iload 5, 2) := by decide +kernel
theorem dX7_digest_101 : decode cX7_digest 101 = .ok (.iload 4, 2) := by decide +kernel
theorem dX7_digest_103 : decode cX7_digest 103 = .ok (.if_icmp .ge 68, 3) := by decide +kernel
theorem dX7_digest_106 : decode cX7_digest 106 = .ok (.aload_n 3, 1) := by decide +kernel
theorem dX7_digest_107 : decode cX7_digest 107 = .ok (.iload 5, 2) := by decide +kernel
theorem dX7_digest_109 : decode cX7_digest 109 = .ok (.aaload, 1) := by decide +kernel
theorem dX7_digest_110 : decode cX7_digest 110 = .ok (.astore 6, 2) := by decide +kernel
theorem dX7_digest_112 : decode cX7_digest 112 = .ok (.ldc2_w 198, 3) := by decide +kernel
theorem dX7_digest_115 : decode cX7_digest 115 = .ok (.ldc2_w 198, 3) := by decide +kernel
theorem dX7_digest_118 : decode cX7_digest 118 = .ok (.lload_n 1, 1) := by decide +kernel
theorem dX7_digest_119 : decode cX7_digest 119 = .ok (.lmul, 1) := by decide +kernel
theorem dX7_digest_120 : decode cX7_digest 120 = .ok (.aload 6, 2) := by decide +kernel
theorem dX7_digest_122 : decode cX7_digest 122 = .ok (.invokestatic 121, 3) := by decide +kernel
theorem dX7_digest_125 : decode cX7_digest 125 = .ok (.i2l, 1) := by decide +kernel
theorem dX7_digest_126 : decode cX7_digest 126 = .ok (.ladd, 1) := by decide +kernel
theorem dX7_digest_127 : decode cX7_digest 127 = .ok (.lmul, 1) := by decide +kernel
theorem dX7_digest_128 : decode cX7_digest 128 = .ok (.aload 6, 2) := by decide +kernel
theorem dX7_digest_130 : decode cX7_digest 130 = .ok (.invokestatic 72, 3) := by decide +kernel
theorem dX7_digest_133 : decode cX7_digest 133 = .ok (.i2l, 1) := by decide +kernel
theorem dX7_digest_134 : decode cX7_digest 134 = .ok (.ladd, 1) := by decide +kernel
theorem dX7_digest_135 : decode cX7_digest 135 = .ok (.lstore_n 1, 1) := by decide +kernel
theorem dX7_digest_136 : decode cX7_digest 136 = .ok (.iconst 1, 1) := by decide +kernel
theorem dX7_digest_137 : decode cX7_digest 137 = .ok (.istore 7, 2) := by decide +kernel
theorem dX7_digest_139 : decode cX7_digest 139 = .ok (.iload 7, 2) := by decide +kernel
theorem dX7_digest_141 : decode cX7_digest 141 = .ok (.bipush 20, 2) := by decide +kernel
theorem dX7_digest_143 : decode cX7_digest 143 = .ok (.if_icmp .gt 22, 3) := by decide +kernel
theorem dX7_digest_146 : decode cX7_digest 146 = .ok (.ldc2_w 198, 3) := by decide +kernel
theorem dX7_digest_149 : decode cX7_digest 149 = .ok (.lload_n 1, 1) := by decide +kernel
theorem dX7_digest_150 : decode cX7_digest 150 = .ok (.lmul, 1) := by decide +kernel
theorem dX7_digest_151 : decode cX7_digest 151 = .ok (.aload 6, 2) := by decide +kernel
theorem dX7_digest_153 : decode cX7_digest 153 = .ok (.iload 7, 2) := by decide +kernel
theorem dX7_digest_155 : decode cX7_digest 155 = .ok (.iaload, 1) := by decide +kernel
theorem dX7_digest_156 : decode cX7_digest 156 = .ok (.i2l, 1) := by decide +kernel
theorem dX7_digest_157 : decode cX7_digest 157 = .ok (.ladd, 1) := by decide +kernel
theorem dX7_digest_158 : decode cX7_digest 158 = .ok (.lstore_n 1, 1) := by decide +kernel
theorem dX7_digest_159 : decode cX7_digest 159 = .ok (.iinc 7 1, 3) := by decide +kernel
theorem dX7_digest_162 : decode cX7_digest 162 = .ok (.goto (-23), 3) := by decide +kernel
theorem dX7_digest_165 : decode cX7_digest 165 = .ok (.iinc 5 1, 3) := by decide +kernel
theorem dX7_digest_168 : decode cX7_digest 168 = .ok (.goto (-69), 3) := by decide +kernel
theorem dX7_digest_171 : decode cX7_digest 171 = .ok (.aload_n 0, 1) := by decide +kernel
theorem dX7_digest_172 : decode cX7_digest 172 = .ok (.getfield 20, 3) := by decide +kernel
theorem dX7_digest_175 : decode cX7_digest 175 = .ok (.astore_n 3, 1) := by decide +kernel
theorem dX7_digest_176 : decode cX7_digest 176 = .ok (.aload_n 3, 1) := by decide +kernel
theorem dX7_digest_177 : decode cX7_digest 177 = .ok (.arraylength, 1) := by decide +kernel
theorem dX7_digest_178 : decode cX7_digest 178 = .ok (.istore 4, 2) := by decide +kernel
theorem dX7_digest_180 : decode cX7_digest 180 = .ok (.iconst 0, 1) := by decide +kernel
theorem dX7_digest_181 : decode cX7_digest 181 = .ok (.istore 5, 2) := by decide +kernel
theorem dX7_digest_183 : decode cX7_digest 183 = .ok (.iload 5, 2) := by decide +kernel
theorem dX7_digest_185 : decode cX7_digest 185 = .ok (.iload 4, 2) := by decide +kernel
theorem dX7_digest_187 : decode cX7_digest 187 = .ok (.if_icmp .ge 25, 3) := by decide +kernel
theorem dX7_digest_190 : decode cX7_digest 190 = .ok (.aload_n 3, 1) := by decide +kernel
theorem dX7_digest_191 : decode cX7_digest 191 = .ok (.iload 5, 2) := by decide +kernel
theorem dX7_digest_193 : decode cX7_digest 193 = .ok (.iaload, 1) := by decide +kernel
theorem dX7_digest_194 : decode cX7_digest 194 = .ok (.istore 6, 2) := by decide +kernel
theorem dX7_digest_196 : decode cX7_digest 196 = .ok (.ldc2_w 198, 3) := by decide +kernel
theorem dX7_digest_199 : decode cX7_digest 199 = .ok (.lload_n 1, 1) := by decide +kernel
theorem dX7_digest_200 : decode cX7_digest 200 = .ok (.lmul, 1) := by decide +kernel
theorem dX7_digest_201 : decode cX7_digest 201 = .ok (.iload 6, 2) := by decide +kernel
theorem dX7_digest_203 : decode cX7_digest 203 = .ok (.i2l, 1) := by decide +kernel
theorem dX7_digest_204 : decode cX7_digest 204 = .ok (.ladd, 1) := by decide +kernel
theorem dX7_digest_205 : decode cX7_digest 205 = .ok (.lstore_n 1, 1) := by decide +kernel
theorem dX7_digest_206 : decode cX7_digest 206 = .ok (.iinc 5 1, 3) := by decide +kernel
theorem dX7_digest_209 : decode cX7_digest 209 = .ok (.goto (-26), 3) := by decide +kernel
theorem dX7_digest_212 : decode cX7_digest 212 = .ok (.lload_n 1, 1) := by decide +kernel
theorem dX7_digest_213 : decode cX7_digest 213 = .ok (.lreturn, 1) := by decide +kernel
theorem dJ5_init_d00df_0 : decode cJ5_init_d00df 0 = .ok (.aload_n 0, 1) := by decide +kernel
theorem dJ5_init_d00df_1 : decode cJ5_init_d00df 1 = .ok (.invokespecial 3, 3) := by decide +kernel
theorem dJ5_init_d00df_4 : decode cJ5_init_d00df 4 = .ok (.getstatic 18, 3) := by decide +kernel
theorem dJ5_init_d00df_7 : decode cJ5_init_d00df 7 = .ok (.ifCond .eq 18, 3) := by decide +kernel
theorem dJ5_init_d00df_10 : decode cJ5_init_d00df 10 = .ok (.aload_n 0, 1) := by decide +kernel
theorem dJ5_init_d00df_11 : decode cJ5_init_d00df 11 = .ok (.iload_n 1, 1) := by decide +kernel
theorem dJ5_init_d00df_12 : decode cJ5_init_d00df 12 = .ok (.newarray .byte, 2) := by decide +kernel
theorem dJ5_init_d00df_14 : decode cJ5_init_d00df 14 = .ok (.putfield 15, 3) := by decide +kernel
theorem dJ5_init_d00df_17 : decode cJ5_init_d00df 17 = .ok (.aload_n 0, 1) := by decide +kernel
theorem dJ5_init_d00df_18 : decode cJ5_init_d00df 18 = .ok (.iconst 0, 1) := by decide +kernel
theorem dJ5_init_d00df_19 : decode cJ5_init_d00df 19 = .ok (.putfield 22, 3) := by decide +kernel
theorem dJ5_init_d00df_22 : decode cJ5_init_d00df 22 = .ok (.goto 16, 3) := by decide +kernel
theorem dJ5_init_d00df_25 : decode cJ5_init_d00df 25 = .ok (.aload_n 0, 1) := by decide +kernel
theorem dJ5_init_d00df_26 : decode cJ5_init_d00df 26 = .ok (.iload_n 1, 1) := by decide +kernel
theorem dJ5_init_d00df_27 : decode cJ5_init_d00df 27 = .ok (.invokestatic 26, 3) := by decide +kernel
theorem dJ5_init_d00df_30 : decode cJ5_init_d00df 30 = .ok (.putfield 15, 3) := by decide +kernel
theorem dJ5_init_d00df_33 : decode cJ5_init_d00df 33 = .ok (.aload_n 0, 1) := by decide +kernel
theorem dJ5_init_d00df_34 : decode cJ5_init_d00df 34 = .ok (.iconst 1, 1) := by decide +kernel
theorem dJ5_init_d00df_35 : decode cJ5_init_d00df 35 = .ok (.putfield 22, 3) := by decide +kernel
theorem dJ5_init_d00df_38 : decode cJ5_init_d00df 38 = .ok (.return_, 1) := by decide +kernel
theorem dJ5_length_8abf5_0 : decode cJ5_length_8abf5 0 = .ok (.aload_n 0, 1) := by decide +kernel
theorem dJ5_length_8abf5_1 : decode cJ5_length_8abf5 1 = .ok (.getfield 79, 3) := by decide +kernel
theorem dJ5_length_8abf5_4 : decode cJ5_length_8abf5 4 = .ok (.ireturn, 1) := by decide +kernel
theorem dJ5_ensureCapacityInternal_d00df_0 : decode cJ5_ensureCapacityInternal_d00df 0 = .ok (.aload_n 0, 1) := by decide +kernel
theorem dJ5_ensureCapacityInternal_d00df_1 : decode cJ5_ensureCapacityInternal_d00df 1 = .ok (.getfield 15, 3) := by decide +kernel
theorem dJ5_ensureCapacityInternal_d00df_4 : decode cJ5_ensureCapacityInternal_d00df 4 = .ok (.arraylength, 1) := by decide +kernel
theorem dJ5_ensureCapacityInternal_d00df_5 : decode cJ5_ensureCapacityInternal_d00df 5 = .ok (.aload_n 0, 1) := by decide +kernel
