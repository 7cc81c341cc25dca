theorem dX0_init_0 : decode cX0_init 0 = .ok (.aload_n 0, 1) := by decide +kernel
theorem dX0_init_1 : decode cX0_init 1 = .ok (.invokespecial 1, 3) := by decide +kernel
theorem dX0_init_4 : decode cX0_init 4 = .ok (.return_, 1) := by decide +kernel
theorem dX1_init_0 : decode cX1_init 0 = .ok (.aload_n 0, 1) := by decide +kernel
theorem dX1_init_1 : decode cX1_init 1 = .ok (.invokespecial 3, 3) := by decide +kernel
theorem dX1_init_4 : decode cX1_init 4 = .ok (.aload_n 0, 1) := by decide +kernel
theorem dX1_init_5 : decode cX1_init 5 = .ok (.bipush 21, 2) := by decide +kernel
theorem dX1_init_7 : decode cX1_init 7 = .ok (.newarray .int, 2) := by decide +kernel
theorem dX1_init_9 : decode cX1_init 9 = .ok (.putfield 9, 3) := by decide +kernel
theorem dX1_init_12 : decode cX1_init 12 = .ok (.aload_n 0, 1) := by decide +kernel
theorem dX1_init_13 : decode cX1_init 13 = .ok (.iload_n 1, 1) := by decide +kernel
theorem dX1_init_14 : decode cX1_init 14 = .ok (.putfield 15, 3) := by decide +kernel
theorem dX1_init_17 : decode cX1_init 17 = .ok (.aload_n 0, 1) := by decide +kernel
theorem dX1_init_18 : decode cX1_init 18 = .ok (.getfield 9, 3) := by decide +kernel
theorem dX1_init_21 : decode cX1_init 21 = .ok (.iconst (-1), 1) := by decide +kernel
theorem dX1_init_22 : decode cX1_init 22 = .ok (.invokestatic 19, 3) := by decide +kernel
theorem dX1_init_25 : decode cX1_init 25 = .ok (.return_, 1) := by decide +kernel
theorem dX1_size_0 : decode cX1_size 0 = .ok (.aload_n 0, 1) := by decide +kernel
theorem dX1_size_1 : decode cX1_size 1 = .ok (.getfield 25, 3) := by decide +kernel
theorem dX1_size_4 : decode cX1_size 4 = .ok (.ireturn, 1) := by decide +kernel
theorem dX1_recall_0 : decode cX1_recall 0 = .ok (.aload_n 0, 1) := by decide +kernel
theorem dX1_recall_1 : decode cX1_recall 1 = .ok (.iload_n 1, 1) := by decide +kernel
theorem dX1_recall_2 : decode cX1_recall 2 = .ok (.aload_n 2, 1) := by decide +kernel
theorem dX1_recall_3 : decode cX1_recall 3 = .ok (.iconst 0, 1) := by decide +kernel
theorem dX1_recall_4 : decode cX1_recall 4 = .ok (.invokevirtual 28, 3) := by decide +kernel
theorem dX1_recall_7 : decode cX1_recall 7 = .ok (.ireturn, 1) := by decide +kernel
theorem dX1_worthKnown_0 : decode cX1_worthKnown 0 = .ok (.iload_n 1, 1) := by decide +kernel
theorem dX1_worthKnown_1 : decode cX1_worthKnown 1 = .ok (.ifCond .ne 5, 3) := by decide +kernel
theorem dX1_worthKnown_4 : decode cX1_worthKnown 4 = .ok (.iconst 1, 1) := by decide +kernel
theorem dX1_worthKnown_5 : decode cX1_worthKnown 5 = .ok (.ireturn, 1) := by decide +kernel
theorem dX1_worthKnown_6 : decode cX1_worthKnown 6 = .ok (.iload_n 1, 1) := by decide +kernel
theorem dX1_worthKnown_7 : decode cX1_worthKnown 7 = .ok (.ifCond .lt 15, 3) := by decide +kernel
theorem dX1_worthKnown_10 : decode cX1_worthKnown 10 = .ok (.iload_n 1, 1) := by decide +kernel
theorem dX1_worthKnown_11 : decode cX1_worthKnown 11 = .ok (.bipush 20, 2) := by decide +kernel
theorem dX1_worthKnown_13 : decode cX1_worthKnown 13 = .ok (.if_icmp .gt 9, 3) := by decide +kernel
theorem dX1_worthKnown_16 : decode cX1_worthKnown 16 = .ok (.iload_n 3, 1) := by decide +kernel
theorem dX1_worthKnown_17 : decode cX1_worthKnown 17 = .ok (.bipush 45, 2) := by decide +kernel
theorem dX1_worthKnown_19 : decode cX1_worthKnown 19 = .ok (.if_icmp .le 5, 3) := by decide +kernel
theorem dX1_worthKnown_22 : decode cX1_worthKnown 22 = .ok (.iconst 0, 1) := by decide +kernel
theorem dX1_worthKnown_23 : decode cX1_worthKnown 23 = .ok (.ireturn, 1) := by decide +kernel
theorem dX1_worthKnown_24 : decode cX1_worthKnown 24 = .ok (.aload_n 2, 1) := by decide +kernel
theorem dX1_worthKnown_25 : decode cX1_worthKnown 25 = .ok (.dup, 1) := by decide +kernel
theorem dX1_worthKnown_26 : decode cX1_worthKnown 26 = .ok (.getfield 32, 3) := by decide +kernel
theorem dX1_worthKnown_29 : decode cX1_worthKnown 29 = .ok (.iconst 1, 1) := by decide +kernel
theorem dX1_worthKnown_30 : decode cX1_worthKnown 30 = .ok (.iadd, 1) := by decide +kernel
theorem dX1_worthKnown_31 : decode cX1_worthKnown 31 = .ok (.putfield 32, 3) := by decide +kernel
theorem dX1_worthKnown_34 : decode cX1_worthKnown 34 = .ok (.aload_n 0, 1) := by decide +kernel
theorem dX1_worthKnown_35 : decode cX1_worthKnown 35 = .ok (.getfield 9, 3) := by decide +kernel
theorem dX1_worthKnown_38 : decode cX1_worthKnown 38 = .ok (.iload_n 1, 1) := by decide +kernel
theorem dX1_worthKnown_39 : decode cX1_worthKnown 39 = .ok (.iaload, 1) := by decide +kernel
theorem dX1_worthKnown_40 : decode cX1_worthKnown 40 = .ok (.iconst (-1), 1) := by decide +kernel
theorem dX1_worthKnown_41 : decode cX1_worthKnown 41 = .ok (.if_icmp .eq 20, 3) := by decide +kernel
theorem dX1_worthKnown_44 : decode cX1_worthKnown 44 = .ok (.aload_n 2, 1) := by decide +kernel
theorem dX1_worthKnown_45 : decode cX1_worthKnown 45 = .ok (.dup, 1) := by decide +kernel
theorem dX1_worthKnown_46 : decode cX1_worthKnown 46 = .ok (.getfield 37, 3) := by decide +kernel
theorem dX1_worthKnown_49 : decode cX1_worthKnown 49 = .ok (.iconst 1, 1) := by decide +kernel
theorem dX1_worthKnown_50 : decode cX1_worthKnown 50 = .ok (.iadd, 1) := by decide +kernel
theorem dX1_worthKnown_51 : decode cX1_worthKnown 51 = .ok (.putfield 37, 3) := by decide +kernel
theorem dX1_worthKnown_54 : decode cX1_worthKnown 54 = .ok (.aload_n 0, 1) := by decide +kernel
theorem dX1_worthKnown_55 : decode cX1_worthKnown 55 = .ok (.getfield 9, 3) := by decide +kernel
theorem dX1_worthKnown_58 : decode cX1_worthKnown 58 = .ok (.iload_n 1, 1) := by decide +kernel
theorem dX1_worthKnown_59 : decode cX1_worthKnown 59 = .ok (.iaload, 1) := by decide +kernel
theorem dX1_worthKnown_60 : decode cX1_worthKnown 60 = .ok (.ireturn, 1) := by decide +kernel
theorem dX1_worthKnown_61 : decode cX1_worthKnown 61 = .ok (.aload_n 0, 1) := by decide +kernel
theorem dX1_worthKnown_62 : decode cX1_worthKnown 62 = .ok (.getfield 15, 3) := by decide +kernel
theorem dX1_worthKnown_65 : decode cX1_worthKnown 65 = .ok (.ifCond .ne 15, 3) := by decide +kernel
theorem dX1_worthKnown_68 : decode cX1_worthKnown 68 = .ok (.aload_n 0, 1) := by decide +kernel
theorem dX1_worthKnown_69 : decode cX1_worthKnown 69 = .ok (.iload_n 1, 1) := by decide +kernel
theorem dX1_worthKnown_70 : decode cX1_worthKnown 70 = .ok (.aload_n 2, 1) := by decide +kernel
theorem dX1_worthKnown_71 : decode cX1_worthKnown 71 = .ok (.iload_n 3, 1) := by decide +kernel
theorem dX1_worthKnown_72 : decode cX1_worthKnown 72 = .ok (.iconst 1, 1) := by decide +kernel
theorem dX1_worthKnown_73 : decode cX1_worthKnown 73 = .ok (.iadd, 1) := by decide +kernel
theorem dX1_worthKnown_74 : decode cX1_worthKnown 74 = .ok (.invokevirtual 40, 3) := by decide +kernel
theorem dX1_worthKnown_77 : decode cX1_worthKnown 77 = .ok (.goto 12, 3) := by decide +kernel
theorem dX1_worthKnown_80 : decode cX1_worthKnown 80 = .ok (.aload_n 0, 1) := by decide +kernel
theorem dX1_worthKnown_81 : decode cX1_worthKnown 81 = .ok (.iload_n 1, 1) := by decide +kernel
theorem dX1_worthKnown_82 : decode cX1_worthKnown 82 = .ok (.aload_n 2, 1) := by decide +kernel
theorem dX1_worthKnown_83 : decode cX1_worthKnown 83 = .ok (.iload_n 3, 1) := by decide +kernel
theorem dX1_worthKnown_84 : decode cX1_worthKnown 84 = .ok (.iconst 1, 1) := by decide +kernel
theorem dX1_worthKnown_85 : decode cX1_worthKnown 85 = .ok (.iadd, 1) := by decide +kernel
theorem dX1_worthKnown_86 : decode cX1_worthKnown 86 = .ok (.invokevirtual 43, 3) := by decide +kernel
theorem dX1_worthKnown_89 : decode cX1_worthKnown 89 = .ok (.istore 4, 2) := by decide +kernel
theorem dX1_worthKnown_91 : decode cX1_worthKnown 91 = .ok (.aload_n 0, 1) := by decide +kernel
theorem dX1_worthKnown_92 : decode cX1_worthKnown 92 = .ok (.getfield 9, 3) := by decide +kernel
theorem dX1_worthKnown_95 : decode cX1_worthKnown 95 = .ok (.iload_n 1, 1) := by decide +kernel
theorem dX1_worthKnown_96 : decode cX1_worthKnown 96 = .ok (.iload 4, 2) := by decide +kernel
theorem dX1_worthKnown_98 : decode cX1_worthKnown 98 = .ok (.iastore, 1) := by decide +kernel
theorem dX1_worthKnown_99 : decode cX1_worthKnown 99 = .ok (.aload_n 0, 1) := by decide +kernel
theorem dX1_worthKnown_100 : decode cX1_worthKnown 100 = .ok (.dup, 1) := by decide +kernel
theorem dX1_worthKnown_101 : decode cX1_worthKnown 101 = .ok (.getfield 25, 3) := by decide +kernel
theorem dX1_worthKnown_104 : decode cX1_worthKnown 104 = .ok (.iconst 1, 1) := by decide +kernel
theorem dX1_worthKnown_105 : decode cX1_worthKnown 105 = .ok (.iadd, 1) := by decide +kernel
theorem dX1_worthKnown_106 : decode cX1_worthKnown 106 = .ok (.putfield 25, 3) := by decide +kernel
theorem dX1_worthKnown_109 : decode cX1_worthKnown 109 = .ok (.aload_n 2, 1) := by decide +kernel
theorem dX1_worthKnown_110 : decode cX1_worthKnown 110 = .ok (.dup, 1) := by decide +kernel
theorem dX1_worthKnown_111 : decode cX1_worthKnown 111 = .ok (.getfield 46, 3) := by decide +kernel
theorem dX1_worthKnown_114 : decode cX1_worthKnown 114 = .ok (.iconst 1, 1) := by decide +kernel
theorem dX1_worthKnown_115 : decode cX1_worthKnown 115 = .ok (.iadd, 1) := by decide +kernel
theorem dX1_worthKnown_116 : decode cX1_worthKnown 116 = .ok (.putfield 46, 3) := by decide +kernel
theorem dX1_worthKnown_119 : decode cX1_worthKnown 119 = .ok (.iload 4, 2) := by decide +kernel
theorem dX1_worthKnown_121 : decode cX1_worthKnown 121 = .ok (.ireturn, 1) := by decide +kernel
theorem dX1_byPentagons_0 : decode cX1_byPentagons 0 = .ok (.iconst 0, 1) := by decide +kernel
theorem dX1_byPentagons_1 : decode cX1_byPentagons 1 = .ok (.istore 4, 2) := by decide +kernel
theorem dX1_byPentagons_3 : decode cX1_byPentagons 3 = .ok (.iconst 1, 1) := by decide +kernel
theorem dX1_byPentagons_4 : decode cX1_byPentagons 4 = .ok (.istore 5, 2) := by decide +kernel
theorem dX1_byPentagons_6 : decode cX1_byPentagons 6 = .ok (.iload 5, 2) := by decide +kernel
theorem dX1_byPentagons_8 : decode cX1_byPentagons 8 = .ok (.bipush 20, 2) := by decide +kernel
theorem dX1_byPentagons_10 : decode cX1_byPentagons 10 = .ok (.if_icmp .gt 104, 3) := by decide +kernel
theorem dX1_byPentagons_13 : decode cX1_byPentagons 13 = .ok (.iload 5, 2) := by decide +kernel
theorem dX1_byPentagons_15 : decode cX1_byPentagons 15 = .ok (.iconst 3, 1) := by decide +kernel
theorem dX1_byPentagons_16 : decode cX1_byPentagons 16 = .ok (.iload 5, 2) := by decide +kernel
theorem dX1_byPentagons_18 : decode cX1_byPentagons 18 = .ok (.imul, 1) := by decide +kernel
theorem dX1_byPentagons_19 : decode cX1_byPentagons 19 = .ok (.iconst 1, 1) := by decide +kernel
theorem dX1_byPentagons_20 : decode cX1_byPentagons 20 = .ok (.isub, 1) := by decide +kernel
theorem dX1_byPentagons_21 : decode cX1_byPentagons 21 = .ok (.imul, 1) := by decide +kernel
theorem dX1_byPentagons_22 : decode cX1_byPentagons 22 = .ok (.iconst 2, 1) := by decide +kernel
theorem dX1_byPentagons_23 : decode cX1_byPentagons 23 = .ok (.idiv, 1) := by decide +kernel
theorem dX1_byPentagons_24 : decode cX1_byPentagons 24 = .ok (.iload_n 1, 1) := by decide +kernel
theorem dX1_byPentagons_25 : decode cX1_byPentagons 25 = .ok (.if_icmp .gt 89, 3) := by decide +kernel
theorem dX1_byPentagons_28 : decode cX1_byPentagons 28 = .ok (.aload_n 0, 1) := by decide +kernel
theorem dX1_byPentagons_29 : decode cX1_byPentagons 29 = .ok (.iload_n 1, 1) := by decide +kernel
theorem dX1_byPentagons_30 : decode cX1_byPentagons 30 = .ok (.iload 5, 2) := by decide +kernel
theorem dX1_byPentagons_32 : decode cX1_byPentagons 32 = .ok (.iconst 3, 1) := by decide +kernel
theorem dX1_byPentagons_33 : decode cX1_byPentagons 33 = .ok (.iload 5, 2) := by decide +kernel
theorem dX1_byPentagons_35 : decode cX1_byPentagons 35 = .ok (.imul, 1) := by decide +kernel
theorem dX1_byPentagons_36 : decode cX1_byPentagons 36 = .ok (.iconst 1, 1) := by decide +kernel
theorem dX1_byPentagons_37 : decode cX1_byPentagons 37 = .ok (.isub, 1) := by decide +kernel
theorem dX1_byPentagons_38 : decode cX1_byPentagons 38 = .ok (.imul, 1) := by decide +kernel
theorem dX1_byPentagons_39 : decode cX1_byPentagons 39 = .ok (.iconst 2, 1) := by decide +kernel
theorem dX1_byPentagons_40 : decode cX1_byPentagons 40 = .ok (.idiv, 1) := by decide +kernel
theorem dX1_byPentagons_41 : decode cX1_byPentagons 41 = .ok (.isub, 1) := by decide +kernel
theorem dX1_byPentagons_42 : decode cX1_byPentagons 42 = .ok (.aload_n 2, 1) := by decide +kernel
theorem dX1_byPentagons_43 : decode cX1_byPentagons 43 = .ok (.iload_n 3, 1) := by decide +kernel
theorem dX1_byPentagons_44 : decode cX1_byPentagons 44 = .ok (.invokevirtual 28, 3) := by decide +kernel
theorem dX1_byPentagons_47 : decode cX1_byPentagons 47 = .ok (.istore 6, 2) := by decide +kernel
theorem dX1_byPentagons_49 : decode cX1_byPentagons 49 = .ok (.iload 5, 2) := by decide +kernel
theorem dX1_byPentagons_51 : decode cX1_byPentagons 51 = .ok (.iconst 3, 1) := by decide +kernel
theorem dX1_byPentagons_52 : decode cX1_byPentagons 52 = .ok (.iload 5, 2) := by decide +kernel
theorem dX1_byPentagons_54 : decode cX1_byPentagons 54 = .ok (.imul, 1) := by decide +kernel
theorem dX1_byPentagons_55 : decode cX1_byPentagons 55 = .ok (.iconst 1, 1) := by decide +kernel
theorem dX1_byPentagons_56 : decode cX1_byPentagons 56 = .ok (.iadd, 1) := by decide +kernel
theorem dX1_byPentagons_57 : decode cX1_byPentagons 57 = .ok (.imul, 1) := by decide +kernel
theorem dX1_byPentagons_58 : decode cX1_byPentagons 58 = .ok (.iconst 2, 1) := by decide +kernel
theorem dX1_byPentagons_59 : decode cX1_byPentagons 59 = .ok (.idiv, 1) := by decide +kernel
theorem dX1_byPentagons_60 : decode cX1_byPentagons 60 = .ok (.iload_n 1, 1) := by decide +kernel
theorem dX1_byPentagons_61 : decode cX1_byPentagons 61 = .ok (.if_icmp .gt 27, 3) := by decide +kernel
theorem dX1_byPentagons_64 : decode cX1_byPentagons 64 = .ok (.iload 6, 2) := by decide +kernel
theorem dX1_byPentagons_66 : decode cX1_byPentagons 66 = .ok (.aload_n 0, 1) := by decide +kernel
theorem dX1_byPentagons_67 : decode cX1_byPentagons 67 = .ok (.iload_n 1, 1) := by decide +kernel
theorem dX1_byPentagons_68 : decode cX1_byPentagons 68 = .ok (.iload 5, 2) := by decide +kernel
theorem dX1_byPentagons_70 : decode cX1_byPentagons 70 = .ok (.iconst 3, 1) := by decide +kernel
theorem dX1_byPentagons_71 : decode cX1_byPentagons 71 = .ok (.iload 5, 2) := by decide +kernel
theorem dX1_byPentagons_73 : decode cX1_byPentagons 73 = .ok (.imul, 1) := by decide +kernel
theorem dX1_byPentagons_74 : decode cX1_byPentagons 74 = .ok (.iconst 1, 1) := by decide +kernel
theorem dX1_byPentagons_75 : decode cX1_byPentagons 75 = .ok (.iadd, 1) := by decide +kernel
theorem dX1_byPentagons_76 : decode cX1_byPentagons 76 = .ok (.imul, 1) := by decide +kernel
theorem dX1_byPentagons_77 : decode cX1_byPentagons 77 = .ok (.iconst 2, 1) := by decide +kernel
theorem dX1_byPentagons_78 : decode cX1_byPentagons 78 = .ok (.idiv, 1) := by decide +kernel
theorem dX1_byPentagons_79 : decode cX1_byPentagons 79 = .ok (.isub, 1) := by decide +kernel
theorem dX1_byPentagons_80 : decode cX1_byPentagons 80 = .ok (.aload_n 2, 1) := by decide +kernel
theorem dX1_byPentagons_81 : decode cX1_byPentagons 81 = .ok (.iload_n 3, 1) := by decide +kernel
theorem dX1_byPentagons_82 : decode cX1_byPentagons 82 = .ok (.invokevirtual 28, 3) := by decide +kernel
theorem dX1_byPentagons_85 : decode cX1_byPentagons 85 = .ok (.iadd, 1) := by decide +kernel
theorem dX1_byPentagons_86 : decode cX1_byPentagons 86 = .ok (.istore 6, 2) := by decide +kernel
theorem dX1_byPentagons_88 : decode cX1_byPentagons 88 = .ok (.iload 4, 2) := by decide +kernel
theorem dX1_byPentagons_90 : decode cX1_byPentagons 90 = .ok (.iload 5, 2) := by decide +kernel
theorem dX1_byPentagons_92 : decode cX1_byPentagons 92 = .ok (.iconst 2, 1) := by decide +kernel
theorem dX1_byPentagons_93 : decode cX1_byPentagons 93 = .ok (.irem, 1) := by decide +kernel
theorem dX1_byPentagons_94 : decode cX1_byPentagons 94 = .ok (.ifCond .eq 8, 3) := by decide +kernel
theorem dX1_byPentagons_97 : decode cX1_byPentagons 97 = .ok (.iload 6, 2) := by decide +kernel
theorem dX1_byPentagons_99 : decode cX1_byPentagons 99 = .ok (.goto 6, 3) := by decide +kernel
theorem dX1_byPentagons_102 : decode cX1_byPentagons 102 = .ok (.iload 6, 2) := by decide +kernel
theorem dX1_byPentagons_104 : decode cX1_byPentagons 104 = .ok (.ineg, 1) := by decide +kernel
theorem dX1_byPentagons_105 : decode cX1_byPentagons 105 = .ok (.iadd, 1) := by decide +kernel
theorem dX1_byPentagons_106 : decode cX1_byPentagons 106 = .ok (.istore 4, 2) := by decide +kernel
theorem dX1_byPentagons_108 : decode cX1_byPentagons 108 = .ok (.iinc 5 1, 3) := by decide +kernel
theorem dX1_byPentagons_111 : decode cX1_byPentagons 111 = .ok (.goto (-105), 3) := by decide +kernel
theorem dX1_byPentagons_114 : decode cX1_byPentagons 114 = .ok (.iload 4, 2) := by decide +kernel
theorem dX1_byPentagons_116 : decode cX1_byPentagons 116 = .ok (.ireturn, 1) := by decide +kernel
theorem dX1_byDivisors_0 : decode cX1_byDivisors 0 = .ok (.iload_n 1, 1) := by decide +kernel
theorem dX1_byDivisors_1 : decode cX1_byDivisors 1 = .ok (.iconst 1, 1) := by decide +kernel
theorem dX1_byDivisors_2 : decode cX1_byDivisors 2 = .ok (.if_icmp .ge 5, 3) := by decide +kernel
theorem dX1_byDivisors_5 : decode cX1_byDivisors 5 = .ok (.iconst 0, 1) := by decide +kernel
theorem dX1_byDivisors_6 : decode cX1_byDivisors 6 = .ok (.ireturn, 1) := by decide +kernel
theorem dX1_byDivisors_7 : decode cX1_byDivisors 7 = .ok (.iconst 0, 1) := by decide +kernel
theorem dX1_byDivisors_8 : decode cX1_byDivisors 8 = .ok (.istore 4, 2) := by decide +kernel
theorem dX1_byDivisors_10 : decode cX1_byDivisors 10 = .ok (.iconst 1, 1) := by decide +kernel
theorem dX1_byDivisors_11 : decode cX1_byDivisors 11 = .ok (.istore 5, 2) := by decide +kernel
theorem dX1_byDivisors_13 : decode cX1_byDivisors 13 = .ok (.iload 5, 2) := by decide +kernel
theorem dX1_byDivisors_15 : decode cX1_byDivisors 15 = .ok (.iload_n 1, 1) := by decide +kernel
theorem dX1_byDivisors_16 : decode cX1_byDivisors 16 = .ok (.if_icmp .gt 31, 3) := by decide +kernel
theorem dX1_byDivisors_19 : decode cX1_byDivisors 19 = .ok (.iload 4, 2) := by decide +kernel
theorem dX1_byDivisors_21 : decode cX1_byDivisors 21 = .ok (.aload_n 0, 1) := by decide +kernel
theorem dX1_byDivisors_22 : decode cX1_byDivisors 22 = .ok (.iload_n 1, 1) := by decide +kernel
theorem dX1_byDivisors_23 : decode cX1_byDivisors 23 = .ok (.iload 5, 2) := by decide +kernel
theorem dX1_byDivisors_25 : decode cX1_byDivisors 25 = .ok (.isub, 1) := by decide +kernel
theorem dX1_byDivisors_26 : decode cX1_byDivisors 26 = .ok (.aload_n 2, 1) := by decide +kernel
theorem dX1_byDivisors_27 : decode cX1_byDivisors 27 = .ok (.iload_n 3, 1) := by decide +kernel
theorem dX1_byDivisors_28 : decode cX1_byDivisors 28 = .ok (.invokevirtual 28, 3) := by decide +kernel
theorem dX1_byDivisors_31 : decode cX1_byDivisors 31 = .ok (.aload_n 0, 1) := by decide +kernel
theorem dX1_byDivisors_32 : decode cX1_byDivisors 32 = .ok (.iload 5, 2) := by decide +kernel
theorem dX1_byDivisors_34 : decode cX1_byDivisors 34 = .ok (.invokevirtual 49, 3) := by decide +kernel
theorem dX1_byDivisors_37 : decode cX1_byDivisors 37 = .ok (.imul, 1) := by decide +kernel
theorem dX1_byDivisors_38 : decode cX1_byDivisors 38 = .ok (.iadd, 1) := by decide +kernel
theorem dX1_byDivisors_39 : decode cX1_byDivisors 39 = .ok (.istore 4, 2) := by decide +kernel
theorem dX1_byDivisors_41 : decode cX1_byDivisors 41 = .ok (.iinc 5 1, 3) := by decide +kernel
theorem dX1_byDivisors_44 : decode cX1_byDivisors 44 = .ok (.goto (-31), 3) := by decide +kernel
theorem dX1_byDivisors_47 : decode cX1_byDivisors 47 = .ok (.iload 4, 2) := by decide +kernel
theorem dX1_byDivisors_49 : decode cX1_byDivisors 49 = .ok (.iload_n 1, 1) := by decide +kernel
theorem dX1_byDivisors_50 : decode cX1_byDivisors 50 = .ok (.idiv, 1) := by decide +kernel
theorem dX1_byDivisors_51 : decode cX1_byDivisors 51 = .ok (.ireturn, 1) := by decide +kernel
theorem dX1_sumOfDivisors_0 : decode cX1_sumOfDivisors 0 = .ok (.aload_n 0, 1) := by decide +kernel
theorem dX1_sumOfDivisors_1 : decode cX1_sumOfDivisors 1 = .ok (.getfield 15, 3) := by decide +kernel
theorem dX1_sumOfDivisors_4 : decode cX1_sumOfDivisors 4 = .ok (.iconst 2, 1) := by decide +kernel
theorem dX1_sumOfDivisors_5 : decode cX1_sumOfDivisors 5 = .ok (.if_icmp .ne 7, 3) := by decide +kernel
theorem dX1_sumOfDivisors_8 : decode cX1_sumOfDivisors 8 = .ok (.iconst 2, 1) := by decide +kernel
theorem dX1_sumOfDivisors_9 : decode cX1_sumOfDivisors 9 = .ok (.goto 4, 3) := by decide +kernel
theorem dX1_sumOfDivisors_12 : decode cX1_sumOfDivisors 12 = .ok (.iconst 1, 1) := by decide +kernel
theorem dX1_sumOfDivisors_13 : decode cX1_sumOfDivisors 13 = .ok (.istore_n 2, 1) := by decide +kernel
theorem dX1_sumOfDivisors_14 : decode cX1_sumOfDivisors 14 = .ok (.iconst 0, 1) := by decide +kernel
theorem dX1_sumOfDivisors_15 : decode cX1_sumOfDivisors 15 = .ok (.istore_n 3, 1) := by decide +kernel
theorem dX1_sumOfDivisors_16 : decode cX1_sumOfDivisors 16 = .ok (.iconst 1, 1) := by decide +kernel
theorem dX1_sumOfDivisors_17 : decode cX1_sumOfDivisors 17 = .ok (.istore 4, 2) := by decide +kernel
theorem dX1_sumOfDivisors_19 : decode cX1_sumOfDivisors 19 = .ok (.iload 4, 2) := by decide +kernel
theorem dX1_sumOfDivisors_21 : decode cX1_sumOfDivisors 21 = .ok (.iload_n 1, 1) := by decide +kernel
theorem dX1_sumOfDivisors_22 : decode cX1_sumOfDivisors 22 = .ok (.if_icmp .gt 24, 3) := by decide +kernel
theorem dX1_sumOfDivisors_25 : decode cX1_sumOfDivisors 25 = .ok (.iload_n 1, 1) := by decide +kernel
theorem dX1_sumOfDivisors_26 : decode cX1_sumOfDivisors 26 = .ok (.iload 4, 2) := by decide +kernel
theorem dX1_sumOfDivisors_28 : decode cX1_sumOfDivisors 28 = .ok (.irem, 1) := by decide +kernel
theorem dX1_sumOfDivisors_29 : decode cX1_sumOfDivisors 29 = .ok (.ifCond .ne 8, 3) := by decide +kernel
theorem dX1_sumOfDivisors_32 : decode cX1_sumOfDivisors 32 = .ok (.iload_n 3, 1) := by decide +kernel
theorem dX1_sumOfDivisors_33 : decode cX1_sumOfDivisors 33 = .ok (.iload 4, 2) := by decide +kernel
theorem dX1_sumOfDivisors_35 : decode cX1_sumOfDivisors 35 = .ok (.iadd, 1) := by decide +kernel
theorem dX1_sumOfDivisors_36 : decode cX1_sumOfDivisors 36 = .ok (.istore_n 3, 1) := by decide +kernel
theorem dX1_sumOfDivisors_37 : decode cX1_sumOfDivisors 37 = .ok (.iload 4, 2) := by decide +kernel
theorem dX1_sumOfDivisors_39 : decode cX1_sumOfDivisors 39 = .ok (.iload_n 2, 1) := by decide +kernel
theorem dX1_sumOfDivisors_40 : decode cX1_sumOfDivisors 40 = .ok (.iadd, 1) := by decide +kernel
theorem dX1_sumOfDivisors_41 : decode cX1_sumOfDivisors 41 = .ok (.istore 4, 2) := by decide +kernel
theorem dX1_sumOfDivisors_43 : decode cX1_sumOfDivisors 43 = .ok (.goto (-24), 3) := by decide +kernel
theorem dX1_sumOfDivisors_46 : decode cX1_sumOfDivisors 46 = .ok (.iload_n 3, 1) := by decide +kernel
theorem dX1_sumOfDivisors_47 : decode cX1_sumOfDivisors 47 = .ok (.ireturn, 1) := by decide +kernel
theorem dX1_keeps_0 : decode cX1_keeps 0 = .ok (.aload_n 0, 1) := by decide +kernel
theorem dX1_keeps_1 : decode cX1_keeps 1 = .ok (.iload_n 1, 1) := by decide +kernel
theorem dX1_keeps_2 : decode cX1_keeps 2 = .ok (.invokevirtual 53, 3) := by decide +kernel
theorem dX1_keeps_5 : decode cX1_keeps 5 = .ok (.iconst (-1), 1) := by decide +kernel
theorem dX1_keeps_6 : decode cX1_keeps 6 = .ok (.if_icmp .eq 7, 3) := by decide +kernel
theorem dX1_keeps_9 : decode cX1_keeps 9 = .ok (.iconst 1, 1) := by decide +kernel
theorem dX1_keeps_10 : decode cX1_keeps 10 = .ok (.goto 4, 3) := by decide +kernel
theorem dX1_keeps_13 : decode cX1_keeps 13 = .ok (.iconst 0, 1) := by decide +kernel
theorem dX1_keeps_14 : decode cX1_keeps 14 = .ok (.ireturn, 1) := by decide +kernel
theorem dX1_keptWorth_0 : decode cX1_keptWorth 0 = .ok (.iload_n 1, 1) := by decide +kernel
theorem dX1_keptWorth_1 : decode cX1_keptWorth 1 = .ok (.iconst 1, 1) := by decide +kernel
theorem dX1_keptWorth_2 : decode cX1_keptWorth 2 = .ok (.if_icmp .lt 9, 3) := by decide +kernel
theorem dX1_keptWorth_5 : decode cX1_keptWorth 5 = .ok (.iload_n 1, 1) := by decide +kernel
theorem dX1_keptWorth_6 : decode cX1_keptWorth 6 = .ok (.bipush 20, 2) := by decide +kernel
theorem dX1_keptWorth_8 : decode cX1_keptWorth 8 = .ok (.if_icmp .le 7, 3) := by decide +kernel
theorem dX1_keptWorth_11 : decode cX1_keptWorth 11 = .ok (.iconst (-1), 1) := by decide +kernel
theorem dX1_keptWorth_12 : decode cX1_keptWorth 12 = .ok (.goto 9, 3) := by decide +kernel
theorem dX1_keptWorth_15 : decode cX1_keptWorth 15 = .ok (.aload_n 0, 1) := by decide +kernel
theorem dX1_keptWorth_16 : decode cX1_keptWorth 16 = .ok (.getfield 9, 3) := by decide +kernel
theorem dX1_keptWorth_19 : decode cX1_keptWorth 19 = .ok (.iload_n 1, 1) := by decide +kernel
theorem dX1_keptWorth_20 : decode cX1_keptWorth 20 = .ok (.iaload, 1) := by decide +kernel
theorem dX1_keptWorth_21 : decode cX1_keptWorth 21 = .ok (.ireturn, 1) := by decide +kernel
theorem dX1_drop_0 : decode cX1_drop 0 = .ok (.iload_n 1, 1) := by decide +kernel
theorem dX1_drop_1 : decode cX1_drop 1 = .ok (.iconst 1, 1) := by decide +kernel
theorem dX1_drop_2 : decode cX1_drop 2 = .ok (.if_icmp .lt 36, 3) := by decide +kernel
theorem dX1_drop_5 : decode cX1_drop 5 = .ok (.iload_n 1, 1) := by decide +kernel
theorem dX1_drop_6 : decode cX1_drop 6 = .ok (.bipush 20, 2) := by decide +kernel
theorem dX1_drop_8 : decode cX1_drop 8 = .ok (.if_icmp .gt 30, 3) := by decide +kernel
theorem dX1_drop_11 : decode cX1_drop 11 = .ok (.aload_n 0, 1) := by decide +kernel
theorem dX1_drop_12 : decode cX1_drop 12 = .ok (.getfield 9, 3) := by decide +kernel
theorem dX1_drop_15 : decode cX1_drop 15 = .ok (.iload_n 1, 1) := by decide +kernel
theorem dX1_drop_16 : decode cX1_drop 16 = .ok (.iaload, 1) := by decide +kernel
theorem dX1_drop_17 : decode cX1_drop 17 = .ok (.iconst (-1), 1) := by decide +kernel
theorem dX1_drop_18 : decode cX1_drop 18 = .ok (.if_icmp .eq 20, 3) := by decide +kernel
theorem dX1_drop_21 : decode cX1_drop 21 = .ok (.aload_n 0, 1) := by decide +kernel
theorem dX1_drop_22 : decode cX1_drop 22 = .ok (.getfield 9, 3) := by decide +kernel
theorem dX1_drop_25 : decode cX1_drop 25 = .ok (.iload_n 1, 1) := by decide +kernel
theorem dX1_drop_26 : decode cX1_drop 26 = .ok (.iconst (-1), 1) := by decide +kernel
theorem dX1_drop_27 : decode cX1_drop 27 = .ok (.iastore, 1) := by decide +kernel
theorem dX1_drop_28 : decode cX1_drop 28 = .ok (.aload_n 0, 1) := by decide +kernel
theorem dX1_drop_29 : decode cX1_drop 29 = .ok (.dup, 1) := by decide +kernel
theorem dX1_drop_30 : decode cX1_drop 30 = .ok (.getfield 25, 3) := by decide +kernel
theorem dX1_drop_33 : decode cX1_drop 33 = .ok (.iconst 1, 1) := by decide +kernel
theorem dX1_drop_34 : decode cX1_drop 34 = .ok (.isub, 1) := by decide +kernel
theorem dX1_drop_35 : decode cX1_drop 35 = .ok (.putfield 25, 3) := by decide +kernel
theorem dX1_drop_38 : decode cX1_drop 38 = .ok (.return_, 1) := by decide +kernel
theorem dX1_dropAll_0 : decode cX1_dropAll 0 = .ok (.aload_n 0, 1) := by decide +kernel
theorem dX1_dropAll_1 : decode cX1_dropAll 1 = .ok (.getfield 25, 3) := by decide +kernel
theorem dX1_dropAll_4 : decode cX1_dropAll 4 = .ok (.istore_n 1, 1) := by decide +kernel
theorem dX1_dropAll_5 : decode cX1_dropAll 5 = .ok (.aload_n 0, 1) := by decide +kernel
theorem dX1_dropAll_6 : decode cX1_dropAll 6 = .ok (.getfield 9, 3) := by decide +kernel
theorem dX1_dropAll_9 : decode cX1_dropAll 9 = .ok (.iconst (-1), 1) := by decide +kernel
theorem dX1_dropAll_10 : decode cX1_dropAll 10 = .ok (.invokestatic 19, 3) := by decide +kernel
theorem dX1_dropAll_13 : decode cX1_dropAll 13 = .ok (.aload_n 0, 1) := by decide +kernel
theorem dX1_dropAll_14 : decode cX1_dropAll 14 = .ok (.iconst 0, 1) := by decide +kernel
theorem dX1_dropAll_15 : decode cX1_dropAll 15 = .ok (.putfield 25, 3) := by decide +kernel
theorem dX1_dropAll_18 : decode cX1_dropAll 18 = .ok (.iload_n 1, 1) := by decide +kernel
theorem dX1_dropAll_19 : decode cX1_dropAll 19 = .ok (.ireturn, 1) := by decide +kernel
theorem dX1_mark_0 : decode cX1_mark 0 = .ok (.iconst 0, 1) := by decide +kernel
theorem dX1_mark_1 : decode cX1_mark 1 = .ok (.istore_n 1, 1) := by decide +kernel
theorem dX1_mark_2 : decode cX1_mark 2 = .ok (.iconst 1, 1) := by decide +kernel
theorem dX1_mark_3 : decode cX1_mark 3 = .ok (.istore_n 2, 1) := by decide +kernel
theorem dX1_mark_4 : decode cX1_mark 4 = .ok (.iload_n 2, 1) := by decide +kernel
theorem dX1_mark_5 : decode cX1_mark 5 = .ok (.bipush 20, 2) := by decide +kernel
theorem dX1_mark_7 : decode cX1_mark 7 = .ok (.if_icmp .gt 30, 3) := by decide +kernel
theorem dX1_mark_10 : decode cX1_mark 10 = .ok (.aload_n 0, 1) := by decide +kernel
theorem dX1_mark_11 : decode cX1_mark 11 = .ok (.getfield 9, 3) := by decide +kernel
theorem dX1_mark_14 : decode cX1_mark 14 = .ok (.iload_n 2, 1) := by decide +kernel
theorem dX1_mark_15 : decode cX1_mark 15 = .ok (.iaload, 1) := by decide +kernel
theorem dX1_mark_16 : decode cX1_mark 16 = .ok (.iconst (-1), 1) := by decide +kernel
theorem dX1_mark_17 : decode cX1_mark 17 = .ok (.if_icmp .eq 14, 3) := by decide +kernel
theorem dX1_mark_20 : decode cX1_mark 20 = .ok (.iload_n 1, 1) := by decide +kernel
theorem dX1_mark_21 : decode cX1_mark 21 = .ok (.iload_n 2, 1) := by decide +kernel
theorem dX1_mark_22 : decode cX1_mark 22 = .ok (.aload_n 0, 1) := by decide +kernel
theorem dX1_mark_23 : decode cX1_mark 23 = .ok (.getfield 9, 3) := by decide +kernel
theorem dX1_mark_26 : decode cX1_mark 26 = .ok (.iload_n 2, 1) := by decide +kernel
theorem dX1_mark_27 : decode cX1_mark 27 = .ok (.iaload, 1) := by decide +kernel
theorem dX1_mark_28 : decode cX1_mark 28 = .ok (.ixor, 1) := by decide +kernel
theorem dX1_mark_29 : decode cX1_mark 29 = .ok (.iadd, 1) := by decide +kernel
theorem dX1_mark_30 : decode cX1_mark 30 = .ok (.istore_n 1, 1) := by decide +kernel
theorem dX1_mark_31 : decode cX1_mark 31 = .ok (.iinc 2 1, 3) := by decide +kernel
theorem dX1_mark_34 : decode cX1_mark 34 = .ok (.goto (-30), 3) := by decide +kernel
theorem dX1_mark_37 : decode cX1_mark 37 = .ok (.iload_n 1, 1) := by decide +kernel
theorem dX1_mark_38 : decode cX1_mark 38 = .ok (.ireturn, 1) := by decide +kernel
theorem dX2_init_0 : decode cX2_init 0 = .ok (.aload_n 0, 1) := by decide +kernel
theorem dX2_init_1 : decode cX2_init 1 = .ok (.invokespecial 5, 3) := by decide +kernel
theorem dX2_init_4 : decode cX2_init 4 = .ok (.aload_n 0, 1) := by decide +kernel
theorem dX2_init_5 : decode cX2_init 5 = .ok (.sipush 2646, 3) := by decide +kernel
theorem dX2_init_8 : decode cX2_init 8 = .ok (.newarray .int, 2) := by decide +kernel
theorem dX2_init_10 : decode cX2_init 10 = .ok (.putfield 11, 3) := by decide +kernel
theorem dX2_init_13 : decode cX2_init 13 = .ok (.aload_n 0, 1) := by decide +kernel
theorem dX2_init_14 : decode cX2_init 14 = .ok (.getfield 11, 3) := by decide +kernel
theorem dX2_init_17 : decode cX2_init 17 = .ok (.iconst (-1), 1) := by decide +kernel
theorem dX2_init_18 : decode cX2_init 18 = .ok (.invokestatic 15, 3) := by decide +kernel
theorem dX2_init_21 : decode cX2_init 21 = .ok (.return_, 1) := by decide +kernel
theorem dX2_size_0 : decode cX2_size 0 = .ok (.aload_n 0, 1) := by decide +kernel
theorem dX2_size_1 : decode cX2_size 1 = .ok (.getfield 21, 3) := by decide +kernel
theorem dX2_size_4 : decode cX2_size 4 = .ok (.ireturn, 1) := by decide +kernel
theorem dX2_recall_0 : decode cX2_recall 0 = .ok (.aload_n 0, 1) := by decide +kernel
theorem dX2_recall_1 : decode cX2_recall 1 = .ok (.iload_n 1, 1) := by decide +kernel
theorem dX2_recall_2 : decode cX2_recall 2 = .ok (.iload_n 2, 1) := by decide +kernel
theorem dX2_recall_3 : decode cX2_recall 3 = .ok (.iload_n 3, 1) := by decide +kernel
theorem dX2_recall_4 : decode cX2_recall 4 = .ok (.aload 4, 2) := by decide +kernel
theorem dX2_recall_6 : decode cX2_recall 6 = .ok (.iconst 0, 1) := by decide +kernel
theorem dX2_recall_7 : decode cX2_recall 7 = .ok (.invokevirtual 25, 3) := by decide +kernel
theorem dX2_recall_10 : decode cX2_recall 10 = .ok (.ireturn, 1) := by decide +kernel
theorem dX2_worthKnown_0 : decode cX2_worthKnown 0 = .ok (.iload_n 2, 1) := by decide +kernel
theorem dX2_worthKnown_1 : decode cX2_worthKnown 1 = .ok (.iload_n 3, 1) := by decide +kernel
theorem dX2_worthKnown_2 : decode cX2_worthKnown 2 = .ok (.invokestatic 29, 3) := by decide +kernel
theorem dX2_worthKnown_5 : decode cX2_worthKnown 5 = .ok (.ifCond .eq 10, 3) := by decide +kernel
theorem dX2_worthKnown_8 : decode cX2_worthKnown 8 = .ok (.iload_n 1, 1) := by decide +kernel
theorem dX2_worthKnown_9 : decode cX2_worthKnown 9 = .ok (.iload_n 2, 1) := by decide +kernel
theorem dX2_worthKnown_10 : decode cX2_worthKnown 10 = .ok (.iload_n 3, 1) := by decide +kernel
theorem dX2_worthKnown_11 : decode cX2_worthKnown 11 = .ok (.invokestatic 33, 3) := by decide +kernel
theorem dX2_worthKnown_14 : decode cX2_worthKnown 14 = .ok (.ireturn, 1) := by decide +kernel
theorem dX2_worthKnown_15 : decode cX2_worthKnown 15 = .ok (.iload_n 1, 1) := by decide +kernel
theorem dX2_worthKnown_16 : decode cX2_worthKnown 16 = .ok (.iload_n 2, 1) := by decide +kernel
theorem dX2_worthKnown_17 : decode cX2_worthKnown 17 = .ok (.iload_n 3, 1) := by decide +kernel
theorem dX2_worthKnown_18 : decode cX2_worthKnown 18 = .ok (.invokestatic 37, 3) := by decide +kernel
theorem dX2_worthKnown_21 : decode cX2_worthKnown 21 = .ok (.istore 6, 2) := by decide +kernel
theorem dX2_worthKnown_23 : decode cX2_worthKnown 23 = .ok (.iload 6, 2) := by decide +kernel
theorem dX2_worthKnown_25 : decode cX2_worthKnown 25 = .ok (.iconst (-1), 1) := by decide +kernel
theorem dX2_worthKnown_26 : decode cX2_worthKnown 26 = .ok (.if_icmp .eq 10, 3) := by decide +kernel
theorem dX2_worthKnown_29 : decode cX2_worthKnown 29 = .ok (.iload 5, 2) := by decide +kernel
theorem dX2_worthKnown_31 : decode cX2_worthKnown 31 = .ok (.bipush 45, 2) := by decide +kernel
theorem dX2_worthKnown_33 : decode cX2_worthKnown 33 = .ok (.if_icmp .le 5, 3) := by decide +kernel
theorem dX2_worthKnown_36 : decode cX2_worthKnown 36 = .ok (.iconst 0, 1) := by decide +kernel
theorem dX2_worthKnown_37 : decode cX2_worthKnown 37 = .ok (.ireturn, 1) := by decide +kernel
theorem dX2_worthKnown_38 : decode cX2_worthKnown 38 = .ok (.aload 4, 2) := by decide +kernel
theorem dX2_worthKnown_40 : decode cX2_worthKnown 40 = .ok (.dup, 1) := by decide +kernel
theorem dX2_worthKnown_41 : decode cX2_worthKnown 41 = .ok (.getfield 40, 3) := by decide +kernel
theorem dX2_worthKnown_44 : decode cX2_worthKnown 44 = .ok (.iconst 1, 1) := by decide +kernel
theorem dX2_worthKnown_45 : decode cX2_worthKnown 45 = .ok (.iadd, 1) := by decide +kernel
theorem dX2_worthKnown_46 : decode cX2_worthKnown 46 = .ok (.putfield 40, 3) := by decide +kernel
theorem dX2_worthKnown_49 : decode cX2_worthKnown 49 = .ok (.aload_n 0, 1) := by decide +kernel
theorem dX2_worthKnown_50 : decode cX2_worthKnown 50 = .ok (.getfield 11, 3) := by decide +kernel
theorem dX2_worthKnown_53 : decode cX2_worthKnown 53 = .ok (.iload 6, 2) := by decide +kernel
theorem dX2_worthKnown_55 : decode cX2_worthKnown 55 = .ok (.iaload, 1) := by decide +kernel
theorem dX2_worthKnown_56 : decode cX2_worthKnown 56 = .ok (.iconst (-1), 1) := by decide +kernel
theorem dX2_worthKnown_57 : decode cX2_worthKnown 57 = .ok (.if_icmp .eq 22, 3) := by decide +kernel
theorem dX2_worthKnown_60 : decode cX2_worthKnown 60 = .ok (.aload 4, 2) := by decide +kernel
theorem dX2_worthKnown_62 : decode cX2_worthKnown 62 = .ok (.dup, 1) := by decide +kernel
theorem dX2_worthKnown_63 : decode cX2_worthKnown 63 = .ok (.getfield 45, 3) := by decide +kernel
theorem dX2_worthKnown_66 : decode cX2_worthKnown 66 = .ok (.iconst 1, 1) := by decide +kernel
theorem dX2_worthKnown_67 : decode cX2_worthKnown 67 = .ok (.iadd, 1) := by decide +kernel
theorem dX2_worthKnown_68 : decode cX2_worthKnown 68 = .ok (.putfield 45, 3) := by decide +kernel
theorem dX2_worthKnown_71 : decode cX2_worthKnown 71 = .ok (.aload_n 0, 1) := by decide +kernel
theorem dX2_worthKnown_72 : decode cX2_worthKnown 72 = .ok (.getfield 11, 3) := by decide +kernel
theorem dX2_worthKnown_75 : decode cX2_worthKnown 75 = .ok (.iload 6, 2) := by decide +kernel
theorem dX2_worthKnown_77 : decode cX2_worthKnown 77 = .ok (.iaload, 1) := by decide +kernel
theorem dX2_worthKnown_78 : decode cX2_worthKnown 78 = .ok (.ireturn, 1) := by decide +kernel
theorem dX2_worthKnown_79 : decode cX2_worthKnown 79 = .ok (.aload_n 0, 1) := by decide +kernel
theorem dX2_worthKnown_80 : decode cX2_worthKnown 80 = .ok (.iload_n 1, 1) := by decide +kernel
theorem dX2_worthKnown_81 : decode cX2_worthKnown 81 = .ok (.iload_n 2, 1) := by decide +kernel
theorem dX2_worthKnown_82 : decode cX2_worthKnown 82 = .ok (.iload_n 3, 1) := by decide +kernel
theorem dX2_worthKnown_83 : decode cX2_worthKnown 83 = .ok (.aload 4, 2) := by decide +kernel
theorem dX2_worthKnown_85 : decode cX2_worthKnown 85 = .ok (.iload 5, 2) := by decide +kernel
theorem dX2_worthKnown_87 : decode cX2_worthKnown 87 = .ok (.iconst 1, 1) := by decide +kernel
theorem dX2_worthKnown_88 : decode cX2_worthKnown 88 = .ok (.iadd, 1) := by decide +kernel
theorem dX2_worthKnown_89 : decode cX2_worthKnown 89 = .ok (.invokevirtual 48, 3) := by decide +kernel
theorem dX2_worthKnown_92 : decode cX2_worthKnown 92 = .ok (.istore 7, 2) := by decide +kernel
theorem dX2_worthKnown_94 : decode cX2_worthKnown 94 = .ok (.aload_n 0, 1) := by decide +kernel
theorem dX2_worthKnown_95 : decode cX2_worthKnown 95 = .ok (.iload_n 1, 1) := by decide +kernel
theorem dX2_worthKnown_96 : decode cX2_worthKnown 96 = .ok (.iload_n 2, 1) := by decide +kernel
theorem dX2_worthKnown_97 : decode cX2_worthKnown 97 = .ok (.iload_n 3, 1) := by decide +kernel
theorem dX2_worthKnown_98 : decode cX2_worthKnown 98 = .ok (.iload 7, 2) := by decide +kernel
theorem dX2_worthKnown_100 : decode cX2_worthKnown 100 = .ok (.invokevirtual 51, 3) := by decide +kernel
theorem dX2_worthKnown_103 : decode cX2_worthKnown 103 = .ok (.aload 4, 2) := by decide +kernel
theorem dX2_worthKnown_105 : decode cX2_worthKnown 105 = .ok (.dup, 1) := by decide +kernel
theorem dX2_worthKnown_106 : decode cX2_worthKnown 106 = .ok (.getfield 55, 3) := by decide +kernel
theorem dX2_worthKnown_109 : decode cX2_worthKnown 109 = .ok (.iconst 1, 1) := by decide +kernel
theorem dX2_worthKnown_110 : decode cX2_worthKnown 110 = .ok (.iadd, 1) := by decide +kernel
theorem dX2_worthKnown_111 : decode cX2_worthKnown 111 = .ok (.putfield 55, 3) := by decide +kernel
theorem dX2_worthKnown_114 : decode cX2_worthKnown 114 = .ok (.iload 7, 2) := by decide +kernel
theorem dX2_worthKnown_116 : decode cX2_worthKnown 116 = .ok (.ireturn, 1) := by decide +kernel
theorem dX2_sumOfLegs_0 : decode cX2_sumOfLegs 0 = .ok (.iload_n 3, 1) := by decide +kernel
theorem dX2_sumOfLegs_1 : decode cX2_sumOfLegs 1 = .ok (.iconst 2, 1) := by decide +kernel
theorem dX2_sumOfLegs_2 : decode cX2_sumOfLegs 2 = .ok (.irem, 1) := by decide +kernel
theorem dX2_sumOfLegs_3 : decode cX2_sumOfLegs 3 = .ok (.ifCond .eq 7, 3) := by decide +kernel
theorem dX2_sumOfLegs_6 : decode cX2_sumOfLegs 6 = .ok (.iconst 1, 1) := by decide +kernel
theorem dX2_sumOfLegs_7 : decode cX2_sumOfLegs 7 = .ok (.goto 4, 3) := by decide +kernel
theorem dX2_sumOfLegs_10 : decode cX2_sumOfLegs 10 = .ok (.iconst 0, 1) := by decide +kernel
theorem dX2_sumOfLegs_11 : decode cX2_sumOfLegs 11 = .ok (.istore 6, 2) := by decide +kernel
theorem dX2_sumOfLegs_13 : decode cX2_sumOfLegs 13 = .ok (.iload_n 1, 1) := by decide +kernel
theorem dX2_sumOfLegs_14 : decode cX2_sumOfLegs 14 = .ok (.tableswitch 198 0 4 #[34, 62, 92, 122, 159], 34) := by decide +kernel
theorem dX2_sumOfLegs_48 : decode cX2_sumOfLegs 48 = .ok (.aload_n 0, 1) := by decide +kernel
theorem dX2_sumOfLegs_49 : decode cX2_sumOfLegs 49 = .ok (.iload_n 1, 1) := by decide +kernel
theorem dX2_sumOfLegs_50 : decode cX2_sumOfLegs 50 = .ok (.iload_n 2, 1) := by decide +kernel
theorem dX2_sumOfLegs_51 : decode cX2_sumOfLegs 51 = .ok (.iload_n 3, 1) := by decide +kernel
theorem dX2_sumOfLegs_52 : decode cX2_sumOfLegs 52 = .ok (.iconst 1, 1) := by decide +kernel
theorem dX2_sumOfLegs_53 : decode cX2_sumOfLegs 53 = .ok (.isub, 1) := by decide +kernel
theorem dX2_sumOfLegs_54 : decode cX2_sumOfLegs 54 = .ok (.aload 4, 2) := by decide +kernel
theorem dX2_sumOfLegs_56 : decode cX2_sumOfLegs 56 = .ok (.iload 5, 2) := by decide +kernel
theorem dX2_sumOfLegs_58 : decode cX2_sumOfLegs 58 = .ok (.invokevirtual 25, 3) := by decide +kernel
theorem dX2_sumOfLegs_61 : decode cX2_sumOfLegs 61 = .ok (.aload_n 0, 1) := by decide +kernel
theorem dX2_sumOfLegs_62 : decode cX2_sumOfLegs 62 = .ok (.iload_n 1, 1) := by decide +kernel
theorem dX2_sumOfLegs_63 : decode cX2_sumOfLegs 63 = .ok (.iload_n 2, 1) := by decide +kernel
theorem dX2_sumOfLegs_64 : decode cX2_sumOfLegs 64 = .ok (.iload_n 3, 1) := by decide +kernel
theorem dX2_sumOfLegs_65 : decode cX2_sumOfLegs 65 = .ok (.isub, 1) := by decide +kernel
theorem dX2_sumOfLegs_66 : decode cX2_sumOfLegs 66 = .ok (.iload_n 3, 1) := by decide +kernel
theorem dX2_sumOfLegs_67 : decode cX2_sumOfLegs 67 = .ok (.aload 4, 2) := by decide +kernel
theorem dX2_sumOfLegs_69 : decode cX2_sumOfLegs 69 = .ok (.iload 5, 2) := by decide +kernel
theorem dX2_sumOfLegs_71 : decode cX2_sumOfLegs 71 = .ok (.invokevirtual 25, 3) := by decide +kernel
theorem dX2_sumOfLegs_74 : decode cX2_sumOfLegs 74 = .ok (.iadd, 1) := by decide +kernel
theorem dX2_sumOfLegs_75 : decode cX2_sumOfLegs 75 = .ok (.ireturn, 1) := by decide +kernel
theorem dX2_sumOfLegs_76 : decode cX2_sumOfLegs 76 = .ok (.aload_n 0, 1) := by decide +kernel
theorem dX2_sumOfLegs_77 : decode cX2_sumOfLegs 77 = .ok (.iload_n 1, 1) := by decide +kernel
theorem dX2_sumOfLegs_78 : decode cX2_sumOfLegs 78 = .ok (.iload_n 2, 1) := by decide +kernel
theorem dX2_sumOfLegs_79 : decode cX2_sumOfLegs 79 = .ok (.iconst 1, 1) := by decide +kernel
theorem dX2_sumOfLegs_80 : decode cX2_sumOfLegs 80 = .ok (.isub, 1) := by decide +kernel
theorem dX2_sumOfLegs_81 : decode cX2_sumOfLegs 81 = .ok (.iload_n 3, 1) := by decide +kernel
theorem dX2_sumOfLegs_82 : decode cX2_sumOfLegs 82 = .ok (.iconst 1, 1) := by decide +kernel
theorem dX2_sumOfLegs_83 : decode cX2_sumOfLegs 83 = .ok (.isub, 1) := by decide +kernel
theorem dX2_sumOfLegs_84 : decode cX2_sumOfLegs 84 = .ok (.aload 4, 2) := by decide +kernel
theorem dX2_sumOfLegs_86 : decode cX2_sumOfLegs 86 = .ok (.iload 5, 2) := by decide +kernel
theorem dX2_sumOfLegs_88 : decode cX2_sumOfLegs 88 = .ok (.invokevirtual 25, 3) := by decide +kernel
theorem dX2_sumOfLegs_91 : decode cX2_sumOfLegs 91 = .ok (.aload_n 0, 1) := by decide +kernel
theorem dX2_sumOfLegs_92 : decode cX2_sumOfLegs 92 = .ok (.iload_n 1, 1) := by decide +kernel
theorem dX2_sumOfLegs_93 : decode cX2_sumOfLegs 93 = .ok (.iload_n 2, 1) := by decide +kernel
theorem dX2_sumOfLegs_94 : decode cX2_sumOfLegs 94 = .ok (.iload_n 3, 1) := by decide +kernel
theorem dX2_sumOfLegs_95 : decode cX2_sumOfLegs 95 = .ok (.isub, 1) := by decide +kernel
theorem dX2_sumOfLegs_96 : decode cX2_sumOfLegs 96 = .ok (.iload_n 3, 1) := by decide +kernel
theorem dX2_sumOfLegs_97 : decode cX2_sumOfLegs 97 = .ok (.aload 4, 2) := by decide +kernel
theorem dX2_sumOfLegs_99 : decode cX2_sumOfLegs 99 = .ok (.iload 5, 2) := by decide +kernel
theorem dX2_sumOfLegs_101 : decode cX2_sumOfLegs 101 = .ok (.invokevirtual 25, 3) := by decide +kernel
theorem dX2_sumOfLegs_104 : decode cX2_sumOfLegs 104 = .ok (.iadd, 1) := by decide +kernel
theorem dX2_sumOfLegs_105 : decode cX2_sumOfLegs 105 = .ok (.ireturn, 1) := by decide +kernel
theorem dX2_sumOfLegs_106 : decode cX2_sumOfLegs 106 = .ok (.aload_n 0, 1) := by decide +kernel
theorem dX2_sumOfLegs_107 : decode cX2_sumOfLegs 107 = .ok (.iload_n 1, 1) := by decide +kernel
theorem dX2_sumOfLegs_108 : decode cX2_sumOfLegs 108 = .ok (.iload_n 2, 1) := by decide +kernel
theorem dX2_sumOfLegs_109 : decode cX2_sumOfLegs 109 = .ok (.iload_n 3, 1) := by decide +kernel
theorem dX2_sumOfLegs_110 : decode cX2_sumOfLegs 110 = .ok (.iconst 1, 1) := by decide +kernel
theorem dX2_sumOfLegs_111 : decode cX2_sumOfLegs 111 = .ok (.isub, 1) := by decide +kernel
theorem dX2_sumOfLegs_112 : decode cX2_sumOfLegs 112 = .ok (.aload 4, 2) := by decide +kernel
theorem dX2_sumOfLegs_114 : decode cX2_sumOfLegs 114 = .ok (.iload 5, 2) := by decide +kernel
theorem dX2_sumOfLegs_116 : decode cX2_sumOfLegs 116 = .ok (.invokevirtual 25, 3) := by decide +kernel
theorem dX2_sumOfLegs_119 : decode cX2_sumOfLegs 119 = .ok (.aload_n 0, 1) := by decide +kernel
theorem dX2_sumOfLegs_120 : decode cX2_sumOfLegs 120 = .ok (.iload_n 1, 1) := by decide +kernel
theorem dX2_sumOfLegs_121 : decode cX2_sumOfLegs 121 = .ok (.iload_n 2, 1) := by decide +kernel
theorem dX2_sumOfLegs_122 : decode cX2_sumOfLegs 122 = .ok (.iload_n 3, 1) := by decide +kernel
theorem dX2_sumOfLegs_123 : decode cX2_sumOfLegs 123 = .ok (.isub, 1) := by decide +kernel
theorem dX2_sumOfLegs_124 : decode cX2_sumOfLegs 124 = .ok (.iload_n 3, 1) := by decide +kernel
theorem dX2_sumOfLegs_125 : decode cX2_sumOfLegs 125 = .ok (.iconst 1, 1) := by decide +kernel
theorem dX2_sumOfLegs_126 : decode cX2_sumOfLegs 126 = .ok (.isub, 1) := by decide +kernel
theorem dX2_sumOfLegs_127 : decode cX2_sumOfLegs 127 = .ok (.aload 4, 2) := by decide +kernel
theorem dX2_sumOfLegs_129 : decode cX2_sumOfLegs 129 = .ok (.iload 5, 2) := by decide +kernel
theorem dX2_sumOfLegs_131 : decode cX2_sumOfLegs 131 = .ok (.invokevirtual 25, 3) := by decide +kernel
theorem dX2_sumOfLegs_134 : decode cX2_sumOfLegs 134 = .ok (.iadd, 1) := by decide +kernel
theorem dX2_sumOfLegs_135 : decode cX2_sumOfLegs 135 = .ok (.ireturn, 1) := by decide +kernel
theorem dX2_sumOfLegs_136 : decode cX2_sumOfLegs 136 = .ok (.aload_n 0, 1) := by decide +kernel
theorem dX2_sumOfLegs_137 : decode cX2_sumOfLegs 137 = .ok (.iload_n 1, 1) := by decide +kernel
theorem dX2_sumOfLegs_138 : decode cX2_sumOfLegs 138 = .ok (.iload_n 2, 1) := by decide +kernel
theorem dX2_sumOfLegs_139 : decode cX2_sumOfLegs 139 = .ok (.iload_n 3, 1) := by decide +kernel
theorem dX2_sumOfLegs_140 : decode cX2_sumOfLegs 140 = .ok (.iconst 1, 1) := by decide +kernel
theorem dX2_sumOfLegs_141 : decode cX2_sumOfLegs 141 = .ok (.isub, 1) := by decide +kernel
theorem dX2_sumOfLegs_142 : decode cX2_sumOfLegs 142 = .ok (.aload 4, 2) := by decide +kernel
theorem dX2_sumOfLegs_144 : decode cX2_sumOfLegs 144 = .ok (.iload 5, 2) := by decide +kernel
theorem dX2_sumOfLegs_146 : decode cX2_sumOfLegs 146 = .ok (.invokevirtual 25, 3) := by decide +kernel
theorem dX2_sumOfLegs_149 : decode cX2_sumOfLegs 149 = .ok (.iload 6, 2) := by decide +kernel
theorem dX2_sumOfLegs_151 : decode cX2_sumOfLegs 151 = .ok (.ifCond .eq 19, 3) := by decide +kernel
theorem dX2_sumOfLegs_154 : decode cX2_sumOfLegs 154 = .ok (.aload_n 0, 1) := by decide +kernel
theorem dX2_sumOfLegs_155 : decode cX2_sumOfLegs 155 = .ok (.iload_n 1, 1) := by decide +kernel
theorem dX2_sumOfLegs_156 : decode cX2_sumOfLegs 156 = .ok (.iload_n 2, 1) := by decide +kernel
theorem dX2_sumOfLegs_157 : decode cX2_sumOfLegs 157 = .ok (.iload_n 3, 1) := by decide +kernel
theorem dX2_sumOfLegs_158 : decode cX2_sumOfLegs 158 = .ok (.isub, 1) := by decide +kernel
theorem dX2_sumOfLegs_159 : decode cX2_sumOfLegs 159 = .ok (.iload_n 3, 1) := by decide +kernel
theorem dX2_sumOfLegs_160 : decode cX2_sumOfLegs 160 = .ok (.aload 4, 2) := by decide +kernel
theorem dX2_sumOfLegs_162 : decode cX2_sumOfLegs 162 = .ok (.iload 5, 2) := by decide +kernel
theorem dX2_sumOfLegs_164 : decode cX2_sumOfLegs 164 = .ok (.invokevirtual 25, 3) := by decide +kernel
theorem dX2_sumOfLegs_167 : decode cX2_sumOfLegs 167 = .ok (.goto 4, 3) := by decide +kernel
theorem dX2_sumOfLegs_170 : decode cX2_sumOfLegs 170 = .ok (.iconst 0, 1) := by decide +kernel
theorem dX2_sumOfLegs_171 : decode cX2_sumOfLegs 171 = .ok (.iadd, 1) := by decide +kernel
theorem dX2_sumOfLegs_172 : decode cX2_sumOfLegs 172 = .ok (.ireturn, 1) := by decide +kernel
theorem dX2_sumOfLegs_173 : decode cX2_sumOfLegs 173 = .ok (.aload_n 0, 1) := by decide +kernel
theorem dX2_sumOfLegs_174 : decode cX2_sumOfLegs 174 = .ok (.iload_n 1, 1) := by decide +kernel
theorem dX2_sumOfLegs_175 : decode cX2_sumOfLegs 175 = .ok (.iload_n 2, 1) := by decide +kernel
theorem dX2_sumOfLegs_176 : decode cX2_sumOfLegs 176 = .ok (.iload_n 3, 1) := by decide +kernel
theorem dX2_sumOfLegs_177 : decode cX2_sumOfLegs 177 = .ok (.iconst 1, 1) := by decide +kernel
theorem dX2_sumOfLegs_178 : decode cX2_sumOfLegs 178 = .ok (.isub, 1) := by decide +kernel
theorem dX2_sumOfLegs_179 : decode cX2_sumOfLegs 179 = .ok (.aload 4, 2) := by decide +kernel
theorem dX2_sumOfLegs_181 : decode cX2_sumOfLegs 181 = .ok (.iload 5, 2) := by decide +kernel
theorem dX2_sumOfLegs_183 : decode cX2_sumOfLegs 183 = .ok (.invokevirtual 25, 3) := by decide +kernel
theorem dX2_sumOfLegs_186 : decode cX2_sumOfLegs 186 = .ok (.iload 6, 2) := by decide +kernel
theorem dX2_sumOfLegs_188 : decode cX2_sumOfLegs 188 = .ok (.ifCond .eq 21, 3) := by decide +kernel
theorem dX2_sumOfLegs_191 : decode cX2_sumOfLegs 191 = .ok (.aload_n 0, 1) := by decide +kernel
theorem dX2_sumOfLegs_192 : decode cX2_sumOfLegs 192 = .ok (.iload_n 1, 1) := by decide +kernel
theorem dX2_sumOfLegs_193 : decode cX2_sumOfLegs 193 = .ok (.iload_n 2, 1) := by decide +kernel
theorem dX2_sumOfLegs_194 : decode cX2_sumOfLegs 194 = .ok (.iload_n 3, 1) := by decide +kernel
theorem dX2_sumOfLegs_195 : decode cX2_sumOfLegs 195 = .ok (.isub, 1) := by decide +kernel
theorem dX2_sumOfLegs_196 : decode cX2_sumOfLegs 196 = .ok (.iload_n 3, 1) := by decide +kernel
theorem dX2_sumOfLegs_197 : decode cX2_sumOfLegs 197 = .ok (.iconst 1, 1) := by decide +kernel
theorem dX2_sumOfLegs_198 : decode cX2_sumOfLegs 198 = .ok (.isub, 1) := by decide +kernel
theorem dX2_sumOfLegs_199 : decode cX2_sumOfLegs 199 = .ok (.aload 4, 2) := by decide +kernel
theorem dX2_sumOfLegs_201 : decode cX2_sumOfLegs 201 = .ok (.iload 5, 2) := by decide +kernel
theorem dX2_sumOfLegs_203 : decode cX2_sumOfLegs 203 = .ok (.invokevirtual 25, 3) := by decide +kernel
theorem dX2_sumOfLegs_206 : decode cX2_sumOfLegs 206 = .ok (.goto 4, 3) := by decide +kernel
theorem dX2_sumOfLegs_209 : decode cX2_sumOfLegs 209 = .ok (.iconst 0, 1) := by decide +kernel
theorem dX2_sumOfLegs_210 : decode cX2_sumOfLegs 210 = .ok (.iadd, 1) := by decide +kernel
theorem dX2_sumOfLegs_211 : decode cX2_sumOfLegs 211 = .ok (.ireturn, 1) := by decide +kernel
theorem dX2_sumOfLegs_212 : decode cX2_sumOfLegs 212 = .ok (.aload_n 0, 1) := by decide +kernel
theorem dX2_sumOfLegs_213 : decode cX2_sumOfLegs 213 = .ok (.iload_n 1, 1) := by decide +kernel
theorem dX2_sumOfLegs_214 : decode cX2_sumOfLegs 214 = .ok (.iload_n 2, 1) := by decide +kernel
theorem dX2_sumOfLegs_215 : decode cX2_sumOfLegs 215 = .ok (.iload_n 3, 1) := by decide +kernel
theorem dX2_sumOfLegs_216 : decode cX2_sumOfLegs 216 = .ok (.isub, 1) := by decide +kernel
theorem dX2_sumOfLegs_217 : decode cX2_sumOfLegs 217 = .ok (.iload_n 3, 1) := by decide +kernel
theorem dX2_sumOfLegs_218 : decode cX2_sumOfLegs 218 = .ok (.aload 4, 2) := by decide +kernel
theorem dX2_sumOfLegs_220 : decode cX2_sumOfLegs 220 = .ok (.iload 5, 2) := by decide +kernel
theorem dX2_sumOfLegs_222 : decode cX2_sumOfLegs 222 = .ok (.invokevirtual 25, 3) := by decide +kernel
theorem dX2_sumOfLegs_225 : decode cX2_sumOfLegs 225 = .ok (.aload_n 0, 1) := by decide +kernel
theorem dX2_sumOfLegs_226 : decode cX2_sumOfLegs 226 = .ok (.iload_n 1, 1) := by decide +kernel
theorem dX2_sumOfLegs_227 : decode cX2_sumOfLegs 227 = .ok (.iload_n 2, 1) := by decide +kernel
theorem dX2_sumOfLegs_228 : decode cX2_sumOfLegs 228 = .ok (.iload_n 3, 1) := by decide +kernel
theorem dX2_sumOfLegs_229 : decode cX2_sumOfLegs 229 = .ok (.isub, 1) := by decide +kernel
theorem dX2_sumOfLegs_230 : decode cX2_sumOfLegs 230 = .ok (.iload_n 3, 1) := by decide +kernel
theorem dX2_sumOfLegs_231 : decode cX2_sumOfLegs 231 = .ok (.iconst 1, 1) := by decide +kernel
theorem dX2_sumOfLegs_232 : decode cX2_sumOfLegs 232 = .ok (.isub, 1) := by decide +kernel
theorem dX2_sumOfLegs_233 : decode cX2_sumOfLegs 233 = .ok (.aload 4, 2) := by decide +kernel
theorem dX2_sumOfLegs_235 : decode cX2_sumOfLegs 235 = .ok (.iload 5, 2) := by decide +kernel
theorem dX2_sumOfLegs_237 : decode cX2_sumOfLegs 237 = .ok (.invokevirtual 25, 3) := by decide +kernel
theorem dX2_sumOfLegs_240 : decode cX2_sumOfLegs 240 = .ok (.iadd, 1) := by decide +kernel
theorem dX2_sumOfLegs_241 : decode cX2_sumOfLegs 241 = .ok (.ireturn, 1) := by decide +kernel
theorem dX2_keeps_0 : decode cX2_keeps 0 = .ok (.aload_n 0, 1) := by decide +kernel
theorem dX2_keeps_1 : decode cX2_keeps 1 = .ok (.iload_n 1, 1) := by decide +kernel
theorem dX2_keeps_2 : decode cX2_keeps 2 = .ok (.iload_n 2, 1) := by decide +kernel
theorem dX2_keeps_3 : decode cX2_keeps 3 = .ok (.iload_n 3, 1) := by decide +kernel
theorem dX2_keeps_4 : decode cX2_keeps 4 = .ok (.invokevirtual 58, 3) := by decide +kernel
theorem dX2_keeps_7 : decode cX2_keeps 7 = .ok (.iconst (-1), 1) := by decide +kernel
theorem dX2_keeps_8 : decode cX2_keeps 8 = .ok (.if_icmp .eq 7, 3) := by decide +kernel
theorem dX2_keeps_11 : decode cX2_keeps 11 = .ok (.iconst 1, 1) := by decide +kernel
theorem dX2_keeps_12 : decode cX2_keeps 12 = .ok (.goto 4, 3) := by decide +kernel
theorem dX2_keeps_15 : decode cX2_keeps 15 = .ok (.iconst 0, 1) := by decide +kernel
theorem dX2_keeps_16 : decode cX2_keeps 16 = .ok (.ireturn, 1) := by decide +kernel
theorem dX2_keptWorth_0 : decode cX2_keptWorth 0 = .ok (.iload_n 1, 1) := by decide +kernel
theorem dX2_keptWorth_1 : decode cX2_keptWorth 1 = .ok (.iload_n 2, 1) := by decide +kernel
theorem dX2_keptWorth_2 : decode cX2_keptWorth 2 = .ok (.iload_n 3, 1) := by decide +kernel
theorem dX2_keptWorth_3 : decode cX2_keptWorth 3 = .ok (.invokestatic 37, 3) := by decide +kernel
theorem dX2_keptWorth_6 : decode cX2_keptWorth 6 = .ok (.istore 4, 2) := by decide +kernel
theorem dX2_keptWorth_8 : decode cX2_keptWorth 8 = .ok (.iload 4, 2) := by decide +kernel
theorem dX2_keptWorth_10 : decode cX2_keptWorth 10 = .ok (.iconst (-1), 1) := by decide +kernel
theorem dX2_keptWorth_11 : decode cX2_keptWorth 11 = .ok (.if_icmp .ne 7, 3) := by decide +kernel
theorem dX2_keptWorth_14 : decode cX2_keptWorth 14 = .ok (.iconst (-1), 1) := by decide +kernel
theorem dX2_keptWorth_15 : decode cX2_keptWorth 15 = .ok (.goto 10, 3) := by decide +kernel
theorem dX2_keptWorth_18 : decode cX2_keptWorth 18 = .ok (.aload_n 0, 1) := by decide +kernel
theorem dX2_keptWorth_19 : decode cX2_keptWorth 19 = .ok (.getfield 11, 3) := by decide +kernel
theorem dX2_keptWorth_22 : decode cX2_keptWorth 22 = .ok (.iload 4, 2) := by decide +kernel
theorem dX2_keptWorth_24 : decode cX2_keptWorth 24 = .ok (.iaload, 1) := by decide +kernel
theorem dX2_keptWorth_25 : decode cX2_keptWorth 25 = .ok (.ireturn, 1) := by decide +kernel
theorem dX2_keepsWith_0 : decode cX2_keepsWith 0 = .ok (.aload_n 0, 1) := by decide +kernel
theorem dX2_keepsWith_1 : decode cX2_keepsWith 1 = .ok (.iload_n 1, 1) := by decide +kernel
theorem dX2_keepsWith_2 : decode cX2_keepsWith 2 = .ok (.iload_n 2, 1) := by decide +kernel
theorem dX2_keepsWith_3 : decode cX2_keepsWith 3 = .ok (.iload_n 3, 1) := by decide +kernel
theorem dX2_keepsWith_4 : decode cX2_keepsWith 4 = .ok (.invokevirtual 61, 3) := by decide +kernel
theorem dX2_keepsWith_7 : decode cX2_keepsWith 7 = .ok (.ifCond .eq 19, 3) := by decide +kernel
theorem dX2_keepsWith_10 : decode cX2_keepsWith 10 = .ok (.aload_n 0, 1) := by decide +kernel
theorem dX2_keepsWith_11 : decode cX2_keepsWith 11 = .ok (.iload_n 1, 1) := by decide +kernel
theorem dX2_keepsWith_12 : decode cX2_keepsWith 12 = .ok (.iload_n 2, 1) := by decide +kernel
theorem dX2_keepsWith_13 : decode cX2_keepsWith 13 = .ok (.iload_n 3, 1) := by decide +kernel
theorem dX2_keepsWith_14 : decode cX2_keepsWith 14 = .ok (.invokevirtual 58, 3) := by decide +kernel
theorem dX2_keepsWith_17 : decode cX2_keepsWith 17 = .ok (.iload 4, 2) := by decide +kernel
theorem dX2_keepsWith_19 : decode cX2_keepsWith 19 = .ok (.if_icmp .ne 7, 3) := by decide +kernel
theorem dX2_keepsWith_22 : decode cX2_keepsWith 22 = .ok (.iconst 1, 1) := by decide +kernel
theorem dX2_keepsWith_23 : decode cX2_keepsWith 23 = .ok (.goto 4, 3) := by decide +kernel
theorem dX2_keepsWith_26 : decode cX2_keepsWith 26 = .ok (.iconst 0, 1) := by decide +kernel
theorem dX2_keepsWith_27 : decode cX2_keepsWith 27 = .ok (.ireturn, 1) := by decide +kernel
theorem dX2_keep_0 : decode cX2_keep 0 = .ok (.iload_n 1, 1) := by decide +kernel
theorem dX2_keep_1 : decode cX2_keep 1 = .ok (.iload_n 2, 1) := by decide +kernel
theorem dX2_keep_2 : decode cX2_keep 2 = .ok (.iload_n 3, 1) := by decide +kernel
theorem dX2_keep_3 : decode cX2_keep 3 = .ok (.invokestatic 37, 3) := by decide +kernel
theorem dX2_keep_6 : decode cX2_keep 6 = .ok (.istore 5, 2) := by decide +kernel
theorem dX2_keep_8 : decode cX2_keep 8 = .ok (.iload 5, 2) := by decide +kernel
theorem dX2_keep_10 : decode cX2_keep 10 = .ok (.iconst (-1), 1) := by decide +kernel
theorem dX2_keep_11 : decode cX2_keep 11 = .ok (.if_icmp .ne 4, 3) := by decide +kernel
theorem dX2_keep_14 : decode cX2_keep 14 = .ok (.return_, 1) := by decide +kernel
theorem dX2_keep_15 : decode cX2_keep 15 = .ok (.aload_n 0, 1) := by decide +kernel
theorem dX2_keep_16 : decode cX2_keep 16 = .ok (.getfield 11, 3) := by decide +kernel
theorem dX2_keep_19 : decode cX2_keep 19 = .ok (.iload 5, 2) := by decide +kernel
theorem dX2_keep_21 : decode cX2_keep 21 = .ok (.iaload, 1) := by decide +kernel
theorem dX2_keep_22 : decode cX2_keep 22 = .ok (.iconst (-1), 1) := by decide +kernel
theorem dX2_keep_23 : decode cX2_keep 23 = .ok (.if_icmp .ne 13, 3) := by decide +kernel
theorem dX2_keep_26 : decode cX2_keep 26 = .ok (.aload_n 0, 1) := by decide +kernel
theorem dX2_keep_27 : decode cX2_keep 27 = .ok (.dup, 1) := by decide +kernel
theorem dX2_keep_28 : decode cX2_keep 28 = .ok (.getfield 21, 3) := by decide +kernel
theorem dX2_keep_31 : decode cX2_keep 31 = .ok (.iconst 1, 1) := by decide +kernel
theorem dX2_keep_32 : decode cX2_keep 32 = .ok (.iadd, 1) := by decide +kernel
theorem dX2_keep_33 : decode cX2_keep 33 = .ok (.putfield 21, 3) := by decide +kernel
theorem dX2_keep_36 : decode cX2_keep 36 = .ok (.aload_n 0, 1) := by decide +kernel
theorem dX2_keep_37 : decode cX2_keep 37 = .ok (.getfield 11, 3) := by decide +kernel
theorem dX2_keep_40 : decode cX2_keep 40 = .ok (.iload 5, 2) := by decide +kernel
theorem dX2_keep_42 : decode cX2_keep 42 = .ok (.iload 4, 2) := by decide +kernel
theorem dX2_keep_44 : decode cX2_keep 44 = .ok (.iastore, 1) := by decide +kernel
theorem dX2_keep_45 : decode cX2_keep 45 = .ok (.return_, 1) := by decide +kernel
theorem dX2_drop_0 : decode cX2_drop 0 = .ok (.iload_n 1, 1) := by decide +kernel
theorem dX2_drop_1 : decode cX2_drop 1 = .ok (.iload_n 2, 1) := by decide +kernel
theorem dX2_drop_2 : decode cX2_drop 2 = .ok (.iload_n 3, 1) := by decide +kernel
theorem dX2_drop_3 : decode cX2_drop 3 = .ok (.invokestatic 37, 3) := by decide +kernel
theorem dX2_drop_6 : decode cX2_drop 6 = .ok (.istore 4, 2) := by decide +kernel
theorem dX2_drop_8 : decode cX2_drop 8 = .ok (.iload 4, 2) := by decide +kernel
theorem dX2_drop_10 : decode cX2_drop 10 = .ok (.iconst (-1), 1) := by decide +kernel
theorem dX2_drop_11 : decode cX2_drop 11 = .ok (.if_icmp .eq 32, 3) := by decide +kernel
theorem dX2_drop_14 : decode cX2_drop 14 = .ok (.aload_n 0, 1) := by decide +kernel
theorem dX2_drop_15 : decode cX2_drop 15 = .ok (.getfield 11, 3) := by decide +kernel
theorem dX2_drop_18 : decode cX2_drop 18 = .ok (.iload 4, 2) := by decide +kernel
theorem dX2_drop_20 : decode cX2_drop 20 = .ok (.iaload, 1) := by decide +kernel
theorem dX2_drop_21 : decode cX2_drop 21 = .ok (.iconst (-1), 1) := by decide +kernel
theorem dX2_drop_22 : decode cX2_drop 22 = .ok (.if_icmp .eq 21, 3) := by decide +kernel
theorem dX2_drop_25 : decode cX2_drop 25 = .ok (.aload_n 0, 1) := by decide +kernel
theorem dX2_drop_26 : decode cX2_drop 26 = .ok (.getfield 11, 3) := by decide +kernel
theorem dX2_drop_29 : decode cX2_drop 29 = .ok (.iload 4, 2) := by decide +kernel
theorem dX2_drop_31 : decode cX2_drop 31 = .ok (.iconst (-1), 1) := by decide +kernel
theorem dX2_drop_32 : decode cX2_drop 32 = .ok (.iastore, 1) := by decide +kernel
theorem dX2_drop_33 : decode cX2_drop 33 = .ok (.aload_n 0, 1) := by decide +kernel
theorem dX2_drop_34 : decode cX2_drop 34 = .ok (.dup, 1) := by decide +kernel
theorem dX2_drop_35 : decode cX2_drop 35 = .ok (.getfield 21, 3) := by decide +kernel
theorem dX2_drop_38 : decode cX2_drop 38 = .ok (.iconst 1, 1) := by decide +kernel
theorem dX2_drop_39 : decode cX2_drop 39 = .ok (.isub, 1) := by decide +kernel
theorem dX2_drop_40 : decode cX2_drop 40 = .ok (.putfield 21, 3) := by decide +kernel
theorem dX2_drop_43 : decode cX2_drop 43 = .ok (.return_, 1) := by decide +kernel
theorem dX2_dropEach_0 : decode cX2_dropEach 0 = .ok (.iconst 0, 1) := by decide +kernel
theorem dX2_dropEach_1 : decode cX2_dropEach 1 = .ok (.istore_n 3, 1) := by decide +kernel
theorem dX2_dropEach_2 : decode cX2_dropEach 2 = .ok (.iconst 0, 1) := by decide +kernel
theorem dX2_dropEach_3 : decode cX2_dropEach 3 = .ok (.istore 4, 2) := by decide +kernel
theorem dX2_dropEach_5 : decode cX2_dropEach 5 = .ok (.iload 4, 2) := by decide +kernel
theorem dX2_dropEach_7 : decode cX2_dropEach 7 = .ok (.sipush 2646, 3) := by decide +kernel
theorem dX2_dropEach_10 : decode cX2_dropEach 10 = .ok (.if_icmp .ge 42, 3) := by decide +kernel
theorem dX2_dropEach_13 : decode cX2_dropEach 13 = .ok (.aload_n 0, 1) := by decide +kernel
theorem dX2_dropEach_14 : decode cX2_dropEach 14 = .ok (.getfield 11, 3) := by decide +kernel
theorem dX2_dropEach_17 : decode cX2_dropEach 17 = .ok (.iload 4, 2) := by decide +kernel
theorem dX2_dropEach_19 : decode cX2_dropEach 19 = .ok (.iaload, 1) := by decide +kernel
theorem dX2_dropEach_20 : decode cX2_dropEach 20 = .ok (.iconst (-1), 1) := by decide +kernel
theorem dX2_dropEach_21 : decode cX2_dropEach 21 = .ok (.if_icmp .eq 25, 3) := by decide +kernel
theorem dX2_dropEach_24 : decode cX2_dropEach 24 = .ok (.aload_n 0, 1) := by decide +kernel
theorem dX2_dropEach_25 : decode cX2_dropEach 25 = .ok (.iload 4, 2) := by decide +kernel
theorem dX2_dropEach_27 : decode cX2_dropEach 27 = .ok (.iload_n 1, 1) := by decide +kernel
theorem dX2_dropEach_28 : decode cX2_dropEach 28 = .ok (.invokevirtual 65, 3) := by decide +kernel
theorem dX2_dropEach_31 : decode cX2_dropEach 31 = .ok (.iload_n 2, 1) := by decide +kernel
theorem dX2_dropEach_32 : decode cX2_dropEach 32 = .ok (.if_icmp .ne 14, 3) := by decide +kernel
theorem dX2_dropEach_35 : decode cX2_dropEach 35 = .ok (.aload_n 0, 1) := by decide +kernel
theorem dX2_dropEach_36 : decode cX2_dropEach 36 = .ok (.getfield 11, 3) := by decide +kernel
theorem dX2_dropEach_39 : decode cX2_dropEach 39 = .ok (.iload 4, 2) := by decide +kernel
theorem dX2_dropEach_41 : decode cX2_dropEach 41 = .ok (.iconst (-1), 1) := by decide +kernel
theorem dX2_dropEach_42 : decode cX2_dropEach 42 = .ok (.iastore, 1) := by decide +kernel
theorem dX2_dropEach_43 : decode cX2_dropEach 43 = .ok (.iinc 3 1, 3) := by decide +kernel
theorem dX2_dropEach_46 : decode cX2_dropEach 46 = .ok (.iinc 4 1, 3) := by decide +kernel
theorem dX2_dropEach_49 : decode cX2_dropEach 49 = .ok (.goto (-44), 3) := by decide +kernel
theorem dX2_dropEach_52 : decode cX2_dropEach 52 = .ok (.aload_n 0, 1) := by decide +kernel
theorem dX2_dropEach_53 : decode cX2_dropEach 53 = .ok (.dup, 1) := by decide +kernel
theorem dX2_dropEach_54 : decode cX2_dropEach 54 = .ok (.getfield 21, 3) := by decide +kernel
theorem dX2_dropEach_57 : decode cX2_dropEach 57 = .ok (.iload_n 3, 1) := by decide +kernel
theorem dX2_dropEach_58 : decode cX2_dropEach 58 = .ok (.isub, 1) := by decide +kernel
theorem dX2_dropEach_59 : decode cX2_dropEach 59 = .ok (.putfield 21, 3) := by decide +kernel
theorem dX2_dropEach_62 : decode cX2_dropEach 62 = .ok (.iload_n 3, 1) := by decide +kernel
theorem dX2_dropEach_63 : decode cX2_dropEach 63 = .ok (.ireturn, 1) := by decide +kernel
theorem dX2_dropAll_0 : decode cX2_dropAll 0 = .ok (.aload_n 0, 1) := by decide +kernel
theorem dX2_dropAll_1 : decode cX2_dropAll 1 = .ok (.getfield 21, 3) := by decide +kernel
theorem dX2_dropAll_4 : decode cX2_dropAll 4 = .ok (.istore_n 1, 1) := by decide +kernel
theorem dX2_dropAll_5 : decode cX2_dropAll 5 = .ok (.aload_n 0, 1) := by decide +kernel
theorem dX2_dropAll_6 : decode cX2_dropAll 6 = .ok (.getfield 11, 3) := by decide +kernel
theorem dX2_dropAll_9 : decode cX2_dropAll 9 = .ok (.iconst (-1), 1) := by decide +kernel
theorem dX2_dropAll_10 : decode cX2_dropAll 10 = .ok (.invokestatic 15, 3) := by decide +kernel
theorem dX2_dropAll_13 : decode cX2_dropAll 13 = .ok (.aload_n 0, 1) := by decide +kernel
theorem dX2_dropAll_14 : decode cX2_dropAll 14 = .ok (.iconst 0, 1) := by decide +kernel
theorem dX2_dropAll_15 : decode cX2_dropAll 15 = .ok (.putfield 21, 3) := by decide +kernel
theorem dX2_dropAll_18 : decode cX2_dropAll 18 = .ok (.iload_n 1, 1) := by decide +kernel
theorem dX2_dropAll_19 : decode cX2_dropAll 19 = .ok (.ireturn, 1) := by decide +kernel
theorem dX2_become_0 : decode cX2_become 0 = .ok (.aload_n 1, 1) := by decide +kernel
theorem dX2_become_1 : decode cX2_become 1 = .ok (.getfield 11, 3) := by decide +kernel
theorem dX2_become_4 : decode cX2_become 4 = .ok (.iconst 0, 1) := by decide +kernel
theorem dX2_become_5 : decode cX2_become 5 = .ok (.aload_n 0, 1) := by decide +kernel
theorem dX2_become_6 : decode cX2_become 6 = .ok (.getfield 11, 3) := by decide +kernel
theorem dX2_become_9 : decode cX2_become 9 = .ok (.iconst 0, 1) := by decide +kernel
theorem dX2_become_10 : decode cX2_become 10 = .ok (.sipush 2646, 3) := by decide +kernel
theorem dX2_become_13 : decode cX2_become 13 = .ok (.invokestatic 69, 3) := by decide +kernel
theorem dX2_become_16 : decode cX2_become 16 = .ok (.aload_n 0, 1) := by decide +kernel
theorem dX2_become_17 : decode cX2_become 17 = .ok (.aload_n 1, 1) := by decide +kernel
theorem dX2_become_18 : decode cX2_become 18 = .ok (.getfield 21, 3) := by decide +kernel
theorem dX2_become_21 : decode cX2_become 21 = .ok (.putfield 21, 3) := by decide +kernel
theorem dX2_become_24 : decode cX2_become 24 = .ok (.return_, 1) := by decide +kernel
theorem dX2_takeIn_0 : decode cX2_takeIn 0 = .ok (.iconst 0, 1) := by decide +kernel
theorem dX2_takeIn_1 : decode cX2_takeIn 1 = .ok (.istore_n 2, 1) := by decide +kernel
theorem dX2_takeIn_2 : decode cX2_takeIn 2 = .ok (.iconst 0, 1) := by decide +kernel
theorem dX2_takeIn_3 : decode cX2_takeIn 3 = .ok (.istore_n 3, 1) := by decide +kernel
theorem dX2_takeIn_4 : decode cX2_takeIn 4 = .ok (.iload_n 3, 1) := by decide +kernel
theorem dX2_takeIn_5 : decode cX2_takeIn 5 = .ok (.sipush 2646, 3) := by decide +kernel
theorem dX2_takeIn_8 : decode cX2_takeIn 8 = .ok (.if_icmp .ge 44, 3) := by decide +kernel
theorem dX2_takeIn_11 : decode cX2_takeIn 11 = .ok (.aload_n 1, 1) := by decide +kernel
theorem dX2_takeIn_12 : decode cX2_takeIn 12 = .ok (.getfield 11, 3) := by decide +kernel
theorem dX2_takeIn_15 : decode cX2_takeIn 15 = .ok (.iload_n 3, 1) := by decide +kernel
theorem dX2_takeIn_16 : decode cX2_takeIn 16 = .ok (.iaload, 1) := by decide +kernel
theorem dX2_takeIn_17 : decode cX2_takeIn 17 = .ok (.iconst (-1), 1) := by decide +kernel
theorem dX2_takeIn_18 : decode cX2_takeIn 18 = .ok (.if_icmp .eq 28, 3) := by decide +kernel
theorem dX2_takeIn_21 : decode cX2_takeIn 21 = .ok (.aload_n 0, 1) := by decide +kernel
theorem dX2_takeIn_22 : decode cX2_takeIn 22 = .ok (.getfield 11, 3) := by decide +kernel
theorem dX2_takeIn_25 : decode cX2_takeIn 25 = .ok (.iload_n 3, 1) := by decide +kernel
theorem dX2_takeIn_26 : decode cX2_takeIn 26 = .ok (.iaload, 1) := by decide +kernel
theorem dX2_takeIn_27 : decode cX2_takeIn 27 = .ok (.iconst (-1), 1) := by decide +kernel
theorem dX2_takeIn_28 : decode cX2_takeIn 28 = .ok (.if_icmp .ne 6, 3) := by decide +kernel
theorem dX2_takeIn_31 : decode cX2_takeIn 31 = .ok (.iinc 2 1, 3) := by decide +kernel
theorem dX2_takeIn_34 : decode cX2_takeIn 34 = .ok (.aload_n 0, 1) := by decide +kernel
theorem dX2_takeIn_35 : decode cX2_takeIn 35 = .ok (.getfield 11, 3) := by decide +kernel
theorem dX2_takeIn_38 : decode cX2_takeIn 38 = .ok (.iload_n 3, 1) := by decide +kernel
theorem dX2_takeIn_39 : decode cX2_takeIn 39 = .ok (.aload_n 1, 1) := by decide +kernel
theorem dX2_takeIn_40 : decode cX2_takeIn 40 = .ok (.getfield 11, 3) := by decide +kernel
theorem dX2_takeIn_43 : decode cX2_takeIn 43 = .ok (.iload_n 3, 1) := by decide +kernel
theorem dX2_takeIn_44 : decode cX2_takeIn 44 = .ok (.iaload, 1) := by decide +kernel
theorem dX2_takeIn_45 : decode cX2_takeIn 45 = .ok (.iastore, 1) := by decide +kernel
theorem dX2_takeIn_46 : decode cX2_takeIn 46 = .ok (.iinc 3 1, 3) := by decide +kernel
theorem dX2_takeIn_49 : decode cX2_takeIn 49 = .ok (.goto (-45), 3) := by decide +kernel
theorem dX2_takeIn_52 : decode cX2_takeIn 52 = .ok (.aload_n 0, 1) := by decide +kernel
theorem dX2_takeIn_53 : decode cX2_takeIn 53 = .ok (.dup, 1) := by decide +kernel
theorem dX2_takeIn_54 : decode cX2_takeIn 54 = .ok (.getfield 21, 3) := by decide +kernel
theorem dX2_takeIn_57 : decode cX2_takeIn 57 = .ok (.iload_n 2, 1) := by decide +kernel
theorem dX2_takeIn_58 : decode cX2_takeIn 58 = .ok (.iadd, 1) := by decide +kernel
theorem dX2_takeIn_59 : decode cX2_takeIn 59 = .ok (.putfield 21, 3) := by decide +kernel
theorem dX2_takeIn_62 : decode cX2_takeIn 62 = .ok (.iload_n 2, 1) := by decide +kernel
theorem dX2_takeIn_63 : decode cX2_takeIn 63 = .ok (.ireturn, 1) := by decide +kernel
theorem dX2_howMany_0 : decode cX2_howMany 0 = .ok (.iconst 0, 1) := by decide +kernel
theorem dX2_howMany_1 : decode cX2_howMany 1 = .ok (.istore_n 3, 1) := by decide +kernel
theorem dX2_howMany_2 : decode cX2_howMany 2 = .ok (.iconst 0, 1) := by decide +kernel
theorem dX2_howMany_3 : decode cX2_howMany 3 = .ok (.istore 4, 2) := by decide +kernel
theorem dX2_howMany_5 : decode cX2_howMany 5 = .ok (.iload 4, 2) := by decide +kernel
theorem dX2_howMany_7 : decode cX2_howMany 7 = .ok (.sipush 2646, 3) := by decide +kernel
theorem dX2_howMany_10 : decode cX2_howMany 10 = .ok (.if_icmp .ge 34, 3) := by decide +kernel
theorem dX2_howMany_13 : decode cX2_howMany 13 = .ok (.aload_n 0, 1) := by decide +kernel
theorem dX2_howMany_14 : decode cX2_howMany 14 = .ok (.getfield 11, 3) := by decide +kernel
theorem dX2_howMany_17 : decode cX2_howMany 17 = .ok (.iload 4, 2) := by decide +kernel
theorem dX2_howMany_19 : decode cX2_howMany 19 = .ok (.iaload, 1) := by decide +kernel
theorem dX2_howMany_20 : decode cX2_howMany 20 = .ok (.iconst (-1), 1) := by decide +kernel
theorem dX2_howMany_21 : decode cX2_howMany 21 = .ok (.if_icmp .eq 17, 3) := by decide +kernel
theorem dX2_howMany_24 : decode cX2_howMany 24 = .ok (.aload_n 0, 1) := by decide +kernel
theorem dX2_howMany_25 : decode cX2_howMany 25 = .ok (.iload 4, 2) := by decide +kernel
theorem dX2_howMany_27 : decode cX2_howMany 27 = .ok (.iload_n 1, 1) := by decide +kernel
theorem dX2_howMany_28 : decode cX2_howMany 28 = .ok (.invokevirtual 65, 3) := by decide +kernel
theorem dX2_howMany_31 : decode cX2_howMany 31 = .ok (.iload_n 2, 1) := by decide +kernel
theorem dX2_howMany_32 : decode cX2_howMany 32 = .ok (.if_icmp .ne 6, 3) := by decide +kernel
theorem dX2_howMany_35 : decode cX2_howMany 35 = .ok (.iinc 3 1, 3) := by decide +kernel
theorem dX2_howMany_38 : decode cX2_howMany 38 = .ok (.iinc 4 1, 3) := by decide +kernel
theorem dX2_howMany_41 : decode cX2_howMany 41 = .ok (.goto (-36), 3) := by decide +kernel
theorem dX2_howMany_44 : decode cX2_howMany 44 = .ok (.iload_n 3, 1) := by decide +kernel
theorem dX2_howMany_45 : decode cX2_howMany 45 = .ok (.ireturn, 1) := by decide +kernel
theorem dX2_mark_0 : decode cX2_mark 0 = .ok (.iconst 0, 1) := by decide +kernel
theorem dX2_mark_1 : decode cX2_mark 1 = .ok (.istore_n 1, 1) := by decide +kernel
theorem dX2_mark_2 : decode cX2_mark 2 = .ok (.iconst 0, 1) := by decide +kernel
theorem dX2_mark_3 : decode cX2_mark 3 = .ok (.istore_n 2, 1) := by decide +kernel
theorem dX2_mark_4 : decode cX2_mark 4 = .ok (.iload_n 2, 1) := by decide +kernel
theorem dX2_mark_5 : decode cX2_mark 5 = .ok (.sipush 2646, 3) := by decide +kernel
theorem dX2_mark_8 : decode cX2_mark 8 = .ok (.if_icmp .ge 33, 3) := by decide +kernel
theorem dX2_mark_11 : decode cX2_mark 11 = .ok (.aload_n 0, 1) := by decide +kernel
theorem dX2_mark_12 : decode cX2_mark 12 = .ok (.getfield 11, 3) := by decide +kernel
theorem dX2_mark_15 : decode cX2_mark 15 = .ok (.iload_n 2, 1) := by decide +kernel
theorem dX2_mark_16 : decode cX2_mark 16 = .ok (.iaload, 1) := by decide +kernel
theorem dX2_mark_17 : decode cX2_mark 17 = .ok (.iconst (-1), 1) := by decide +kernel
theorem dX2_mark_18 : decode cX2_mark 18 = .ok (.if_icmp .eq 17, 3) := by decide +kernel
theorem dX2_mark_21 : decode cX2_mark 21 = .ok (.iload_n 1, 1) := by decide +kernel
theorem dX2_mark_22 : decode cX2_mark 22 = .ok (.iload_n 2, 1) := by decide +kernel
theorem dX2_mark_23 : decode cX2_mark 23 = .ok (.invokestatic 75, 3) := by decide +kernel
theorem dX2_mark_26 : decode cX2_mark 26 = .ok (.aload_n 0, 1) := by decide +kernel
theorem dX2_mark_27 : decode cX2_mark 27 = .ok (.getfield 11, 3) := by decide +kernel
theorem dX2_mark_30 : decode cX2_mark 30 = .ok (.iload_n 2, 1) := by decide +kernel
theorem dX2_mark_31 : decode cX2_mark 31 = .ok (.iaload, 1) := by decide +kernel
theorem dX2_mark_32 : decode cX2_mark 32 = .ok (.ixor, 1) := by decide +kernel
theorem dX2_mark_33 : decode cX2_mark 33 = .ok (.iadd, 1) := by decide +kernel
theorem dX2_mark_34 : decode cX2_mark 34 = .ok (.istore_n 1, 1) := by decide +kernel
theorem dX2_mark_35 : decode cX2_mark 35 = .ok (.iinc 2 1, 3) := by decide +kernel
theorem dX2_mark_38 : decode cX2_mark 38 = .ok (.goto (-34), 3) := by decide +kernel
theorem dX2_mark_41 : decode cX2_mark 41 = .ok (.iload_n 1, 1) := by decide +kernel
theorem dX2_mark_42 : decode cX2_mark 42 = .ok (.ireturn, 1) := by decide +kernel
theorem dX2_sumOfWorths_0 : decode cX2_sumOfWorths 0 = .ok (.iconst 0, 1) := by decide +kernel
theorem dX2_sumOfWorths_1 : decode cX2_sumOfWorths 1 = .ok (.istore_n 1, 1) := by decide +kernel
theorem dX2_sumOfWorths_2 : decode cX2_sumOfWorths 2 = .ok (.iconst 0, 1) := by decide +kernel
theorem dX2_sumOfWorths_3 : decode cX2_sumOfWorths 3 = .ok (.istore_n 2, 1) := by decide +kernel
theorem dX2_sumOfWorths_4 : decode cX2_sumOfWorths 4 = .ok (.iload_n 2, 1) := by decide +kernel
theorem dX2_sumOfWorths_5 : decode cX2_sumOfWorths 5 = .ok (.sipush 2646, 3) := by decide +kernel
theorem dX2_sumOfWorths_8 : decode cX2_sumOfWorths 8 = .ok (.if_icmp .ge 28, 3) := by decide +kernel
theorem dX2_sumOfWorths_11 : decode cX2_sumOfWorths 11 = .ok (.aload_n 0, 1) := by decide +kernel
theorem dX2_sumOfWorths_12 : decode cX2_sumOfWorths 12 = .ok (.getfield 11, 3) := by decide +kernel
theorem dX2_sumOfWorths_15 : decode cX2_sumOfWorths 15 = .ok (.iload_n 2, 1) := by decide +kernel
theorem dX2_sumOfWorths_16 : decode cX2_sumOfWorths 16 = .ok (.iaload, 1) := by decide +kernel
theorem dX2_sumOfWorths_17 : decode cX2_sumOfWorths 17 = .ok (.iconst (-1), 1) := by decide +kernel
theorem dX2_sumOfWorths_18 : decode cX2_sumOfWorths 18 = .ok (.if_icmp .eq 12, 3) := by decide +kernel
theorem dX2_sumOfWorths_21 : decode cX2_sumOfWorths 21 = .ok (.iload_n 1, 1) := by decide +kernel
theorem dX2_sumOfWorths_22 : decode cX2_sumOfWorths 22 = .ok (.aload_n 0, 1) := by decide +kernel
theorem dX2_sumOfWorths_23 : decode cX2_sumOfWorths 23 = .ok (.getfield 11, 3) := by decide +kernel
theorem dX2_sumOfWorths_26 : decode cX2_sumOfWorths 26 = .ok (.iload_n 2, 1) := by decide +kernel
theorem dX2_sumOfWorths_27 : decode cX2_sumOfWorths 27 = .ok (.iaload, 1) := by decide +kernel
theorem dX2_sumOfWorths_28 : decode cX2_sumOfWorths 28 = .ok (.iadd, 1) := by decide +kernel
theorem dX2_sumOfWorths_29 : decode cX2_sumOfWorths 29 = .ok (.istore_n 1, 1) := by decide +kernel
theorem dX2_sumOfWorths_30 : decode cX2_sumOfWorths 30 = .ok (.iinc 2 1, 3) := by decide +kernel
theorem dX2_sumOfWorths_33 : decode cX2_sumOfWorths 33 = .ok (.goto (-29), 3) := by decide +kernel
theorem dX2_sumOfWorths_36 : decode cX2_sumOfWorths 36 = .ok (.iload_n 1, 1) := by decide +kernel
theorem dX2_sumOfWorths_37 : decode cX2_sumOfWorths 37 = .ok (.ireturn, 1) := by decide +kernel
theorem dX2_isLike_0 : decode cX2_isLike 0 = .ok (.iconst 0, 1) := by decide +kernel
theorem dX2_isLike_1 : decode cX2_isLike 1 = .ok (.istore_n 2, 1) := by decide +kernel
theorem dX2_isLike_2 : decode cX2_isLike 2 = .ok (.iload_n 2, 1) := by decide +kernel
theorem dX2_isLike_3 : decode cX2_isLike 3 = .ok (.sipush 2646, 3) := by decide +kernel
theorem dX2_isLike_6 : decode cX2_isLike 6 = .ok (.if_icmp .ge 26, 3) := by decide +kernel
theorem dX2_isLike_9 : decode cX2_isLike 9 = .ok (.aload_n 0, 1) := by decide +kernel
theorem dX2_isLike_10 : decode cX2_isLike 10 = .ok (.getfield 11, 3) := by decide +kernel
theorem dX2_isLike_13 : decode cX2_isLike 13 = .ok (.iload_n 2, 1) := by decide +kernel
theorem dX2_isLike_14 : decode cX2_isLike 14 = .ok (.iaload, 1) := by decide +kernel
theorem dX2_isLike_15 : decode cX2_isLike 15 = .ok (.aload_n 1, 1) := by decide +kernel
theorem dX2_isLike_16 : decode cX2_isLike 16 = .ok (.getfield 11, 3) := by decide +kernel
theorem dX2_isLike_19 : decode cX2_isLike 19 = .ok (.iload_n 2, 1) := by decide +kernel
theorem dX2_isLike_20 : decode cX2_isLike 20 = .ok (.iaload, 1) := by decide +kernel
theorem dX2_isLike_21 : decode cX2_isLike 21 = .ok (.if_icmp .eq 5, 3) := by decide +kernel
theorem dX2_isLike_24 : decode cX2_isLike 24 = .ok (.iconst 0, 1) := by decide +kernel
theorem dX2_isLike_25 : decode cX2_isLike 25 = .ok (.ireturn, 1) := by decide +kernel
theorem dX2_isLike_26 : decode cX2_isLike 26 = .ok (.iinc 2 1, 3) := by decide +kernel
theorem dX2_isLike_29 : decode cX2_isLike 29 = .ok (.goto (-27), 3) := by decide +kernel
theorem dX2_isLike_32 : decode cX2_isLike 32 = .ok (.iconst 1, 1) := by decide +kernel
theorem dX2_isLike_33 : decode cX2_isLike 33 = .ok (.ireturn, 1) := by decide +kernel
theorem dX2_agreesWith_0 : decode cX2_agreesWith 0 = .ok (.iconst 0, 1) := by decide +kernel
theorem dX2_agreesWith_1 : decode cX2_agreesWith 1 = .ok (.istore_n 2, 1) := by decide +kernel
theorem dX2_agreesWith_2 : decode cX2_agreesWith 2 = .ok (.iload_n 2, 1) := by decide +kernel
theorem dX2_agreesWith_3 : decode cX2_agreesWith 3 = .ok (.bipush 6, 2) := by decide +kernel
theorem dX2_agreesWith_5 : decode cX2_agreesWith 5 = .ok (.if_icmp .ge 41, 3) := by decide +kernel
theorem dX2_agreesWith_8 : decode cX2_agreesWith 8 = .ok (.iconst 0, 1) := by decide +kernel
theorem dX2_agreesWith_9 : decode cX2_agreesWith 9 = .ok (.istore_n 3, 1) := by decide +kernel
theorem dX2_agreesWith_10 : decode cX2_agreesWith 10 = .ok (.iload_n 3, 1) := by decide +kernel
theorem dX2_agreesWith_11 : decode cX2_agreesWith 11 = .ok (.bipush 20, 2) := by decide +kernel
theorem dX2_agreesWith_13 : decode cX2_agreesWith 13 = .ok (.if_icmp .gt 27, 3) := by decide +kernel
theorem dX2_agreesWith_16 : decode cX2_agreesWith 16 = .ok (.aload_n 1, 1) := by decide +kernel
theorem dX2_agreesWith_17 : decode cX2_agreesWith 17 = .ok (.iload_n 2, 1) := by decide +kernel
theorem dX2_agreesWith_18 : decode cX2_agreesWith 18 = .ok (.iload_n 3, 1) := by decide +kernel
theorem dX2_agreesWith_19 : decode cX2_agreesWith 19 = .ok (.invokevirtual 79, 3) := by decide +kernel
theorem dX2_agreesWith_22 : decode cX2_agreesWith 22 = .ok (.aload_n 0, 1) := by decide +kernel
theorem dX2_agreesWith_23 : decode cX2_agreesWith 23 = .ok (.iload_n 2, 1) := by decide +kernel
theorem dX2_agreesWith_24 : decode cX2_agreesWith 24 = .ok (.iload_n 3, 1) := by decide +kernel
theorem dX2_agreesWith_25 : decode cX2_agreesWith 25 = .ok (.aload_n 1, 1) := by decide +kernel
theorem dX2_agreesWith_26 : decode cX2_agreesWith 26 = .ok (.invokevirtual 85, 3) := by decide +kernel
theorem dX2_agreesWith_29 : decode cX2_agreesWith 29 = .ok (.ifCond .ne 5, 3) := by decide +kernel
theorem dX2_agreesWith_32 : decode cX2_agreesWith 32 = .ok (.iconst 0, 1) := by decide +kernel
theorem dX2_agreesWith_33 : decode cX2_agreesWith 33 = .ok (.ireturn, 1) := by decide +kernel
theorem dX2_agreesWith_34 : decode cX2_agreesWith 34 = .ok (.iinc 3 1, 3) := by decide +kernel
theorem dX2_agreesWith_37 : decode cX2_agreesWith 37 = .ok (.goto (-27), 3) := by decide +kernel
theorem dX2_agreesWith_40 : decode cX2_agreesWith 40 = .ok (.iinc 2 1, 3) := by decide +kernel
theorem dX2_agreesWith_43 : decode cX2_agreesWith 43 = .ok (.goto (-41), 3) := by decide +kernel
theorem dX2_agreesWith_46 : decode cX2_agreesWith 46 = .ok (.iconst 1, 1) := by decide +kernel
theorem dX2_agreesWith_47 : decode cX2_agreesWith 47 = .ok (.ireturn, 1) := by decide +kernel
theorem dX2_agreesWithRow_0 : decode cX2_agreesWithRow 0 = .ok (.iconst 0, 1) := by decide +kernel
theorem dX2_agreesWithRow_1 : decode cX2_agreesWithRow 1 = .ok (.istore 4, 2) := by decide +kernel
theorem dX2_agreesWithRow_3 : decode cX2_agreesWithRow 3 = .ok (.iload 4, 2) := by decide +kernel
theorem dX2_agreesWithRow_5 : decode cX2_agreesWithRow 5 = .ok (.bipush 20, 2) := by decide +kernel
theorem dX2_agreesWithRow_7 : decode cX2_agreesWithRow 7 = .ok (.if_icmp .gt 41, 3) := by decide +kernel
theorem dX2_agreesWithRow_10 : decode cX2_agreesWithRow 10 = .ok (.aload_n 0, 1) := by decide +kernel
theorem dX2_agreesWithRow_11 : decode cX2_agreesWithRow 11 = .ok (.iload_n 1, 1) := by decide +kernel
theorem dX2_agreesWithRow_12 : decode cX2_agreesWithRow 12 = .ok (.iload 4, 2) := by decide +kernel
theorem dX2_agreesWithRow_14 : decode cX2_agreesWithRow 14 = .ok (.iload_n 2, 1) := by decide +kernel
theorem dX2_agreesWithRow_15 : decode cX2_agreesWithRow 15 = .ok (.invokevirtual 61, 3) := by decide +kernel
theorem dX2_agreesWithRow_18 : decode cX2_agreesWithRow 18 = .ok (.ifCond .eq 24, 3) := by decide +kernel
theorem dX2_agreesWithRow_21 : decode cX2_agreesWithRow 21 = .ok (.aload_n 0, 1) := by decide +kernel
theorem dX2_agreesWithRow_22 : decode cX2_agreesWithRow 22 = .ok (.iload_n 1, 1) := by decide +kernel
theorem dX2_agreesWithRow_23 : decode cX2_agreesWithRow 23 = .ok (.iload 4, 2) := by decide +kernel
theorem dX2_agreesWithRow_25 : decode cX2_agreesWithRow 25 = .ok (.iload_n 2, 1) := by decide +kernel
theorem dX2_agreesWithRow_26 : decode cX2_agreesWithRow 26 = .ok (.invokevirtual 58, 3) := by decide +kernel
theorem dX2_agreesWithRow_29 : decode cX2_agreesWithRow 29 = .ok (.aload_n 3, 1) := by decide +kernel
theorem dX2_agreesWithRow_30 : decode cX2_agreesWithRow 30 = .ok (.iload_n 1, 1) := by decide +kernel
theorem dX2_agreesWithRow_31 : decode cX2_agreesWithRow 31 = .ok (.iload 4, 2) := by decide +kernel
theorem dX2_agreesWithRow_33 : decode cX2_agreesWithRow 33 = .ok (.iload_n 2, 1) := by decide +kernel
theorem dX2_agreesWithRow_34 : decode cX2_agreesWithRow 34 = .ok (.invokevirtual 89, 3) := by decide +kernel
theorem dX2_agreesWithRow_37 : decode cX2_agreesWithRow 37 = .ok (.if_icmp .eq 5, 3) := by decide +kernel
theorem dX2_agreesWithRow_40 : decode cX2_agreesWithRow 40 = .ok (.iconst 0, 1) := by decide +kernel
theorem dX2_agreesWithRow_41 : decode cX2_agreesWithRow 41 = .ok (.ireturn, 1) := by decide +kernel
theorem dX2_agreesWithRow_42 : decode cX2_agreesWithRow 42 = .ok (.iinc 4 1, 3) := by decide +kernel
theorem dX2_agreesWithRow_45 : decode cX2_agreesWithRow 45 = .ok (.goto (-42), 3) := by decide +kernel
theorem dX2_agreesWithRow_48 : decode cX2_agreesWithRow 48 = .ok (.iconst 1, 1) := by decide +kernel
theorem dX2_agreesWithRow_49 : decode cX2_agreesWithRow 49 = .ok (.ireturn, 1) := by decide +kernel
theorem dX2_isWellCounted_0 : decode cX2_isWellCounted 0 = .ok (.iconst 0, 1) := by decide +kernel
theorem dX2_isWellCounted_1 : decode cX2_isWellCounted 1 = .ok (.istore_n 1, 1) := by decide +kernel
theorem dX2_isWellCounted_2 : decode cX2_isWellCounted 2 = .ok (.iconst 0, 1) := by decide +kernel
theorem dX2_isWellCounted_3 : decode cX2_isWellCounted 3 = .ok (.istore_n 2, 1) := by decide +kernel
theorem dX2_isWellCounted_4 : decode cX2_isWellCounted 4 = .ok (.iload_n 2, 1) := by decide +kernel
theorem dX2_isWellCounted_5 : decode cX2_isWellCounted 5 = .ok (.sipush 2646, 3) := by decide +kernel
theorem dX2_isWellCounted_8 : decode cX2_isWellCounted 8 = .ok (.if_icmp .ge 38, 3) := by decide +kernel
theorem dX2_isWellCounted_11 : decode cX2_isWellCounted 11 = .ok (.aload_n 0, 1) := by decide +kernel
theorem dX2_isWellCounted_12 : decode cX2_isWellCounted 12 = .ok (.getfield 11, 3) := by decide +kernel
theorem dX2_isWellCounted_15 : decode cX2_isWellCounted 15 = .ok (.iload_n 2, 1) := by decide +kernel
theorem dX2_isWellCounted_16 : decode cX2_isWellCounted 16 = .ok (.iaload, 1) := by decide +kernel
theorem dX2_isWellCounted_17 : decode cX2_isWellCounted 17 = .ok (.iconst (-1), 1) := by decide +kernel
theorem dX2_isWellCounted_18 : decode cX2_isWellCounted 18 = .ok (.if_icmp .eq 22, 3) := by decide +kernel
theorem dX2_isWellCounted_21 : decode cX2_isWellCounted 21 = .ok (.iload_n 2, 1) := by decide +kernel
theorem dX2_isWellCounted_22 : decode cX2_isWellCounted 22 = .ok (.invokestatic 92, 3) := by decide +kernel
theorem dX2_isWellCounted_25 : decode cX2_isWellCounted 25 = .ok (.iload_n 2, 1) := by decide +kernel
theorem dX2_isWellCounted_26 : decode cX2_isWellCounted 26 = .ok (.invokestatic 95, 3) := by decide +kernel
theorem dX2_isWellCounted_29 : decode cX2_isWellCounted 29 = .ok (.invokestatic 29, 3) := by decide +kernel
theorem dX2_isWellCounted_32 : decode cX2_isWellCounted 32 = .ok (.ifCond .eq 5, 3) := by decide +kernel
theorem dX2_isWellCounted_35 : decode cX2_isWellCounted 35 = .ok (.iconst 0, 1) := by decide +kernel
theorem dX2_isWellCounted_36 : decode cX2_isWellCounted 36 = .ok (.ireturn, 1) := by decide +kernel
theorem dX2_isWellCounted_37 : decode cX2_isWellCounted 37 = .ok (.iinc 1 1, 3) := by decide +kernel
theorem dX2_isWellCounted_40 : decode cX2_isWellCounted 40 = .ok (.iinc 2 1, 3) := by decide +kernel
theorem dX2_isWellCounted_43 : decode cX2_isWellCounted 43 = .ok (.goto (-39), 3) := by decide +kernel
theorem dX2_isWellCounted_46 : decode cX2_isWellCounted 46 = .ok (.iload_n 1, 1) := by decide +kernel
theorem dX2_isWellCounted_47 : decode cX2_isWellCounted 47 = .ok (.aload_n 0, 1) := by decide +kernel
theorem dX2_isWellCounted_48 : decode cX2_isWellCounted 48 = .ok (.getfield 21, 3) := by decide +kernel
theorem dX2_isWellCounted_51 : decode cX2_isWellCounted 51 = .ok (.if_icmp .ne 7, 3) := by decide +kernel
theorem dX2_isWellCounted_54 : decode cX2_isWellCounted 54 = .ok (.iconst 1, 1) := by decide +kernel
theorem dX2_isWellCounted_55 : decode cX2_isWellCounted 55 = .ok (.goto 4, 3) := by decide +kernel
theorem dX2_isWellCounted_58 : decode cX2_isWellCounted 58 = .ok (.iconst 0, 1) := by decide +kernel
theorem dX2_isWellCounted_59 : decode cX2_isWellCounted 59 = .ok (.ireturn, 1) := by decide +kernel
theorem dX2_aspect_0 : decode cX2_aspect 0 = .ok (.iload_n 2, 1) := by decide +kernel
theorem dX2_aspect_1 : decode cX2_aspect 1 = .ok (.tableswitch 42 0 2 #[27, 32, 37], 27) := by decide +kernel
theorem dX2_aspect_28 : decode cX2_aspect 28 = .ok (.iload_n 1, 1) := by decide +kernel
theorem dX2_aspect_29 : decode cX2_aspect 29 = .ok (.invokestatic 98, 3) := by decide +kernel
theorem dX2_aspect_32 : decode cX2_aspect 32 = .ok (.ireturn, 1) := by decide +kernel
theorem dX2_aspect_33 : decode cX2_aspect 33 = .ok (.iload_n 1, 1) := by decide +kernel
theorem dX2_aspect_34 : decode cX2_aspect 34 = .ok (.invokestatic 92, 3) := by decide +kernel
theorem dX2_aspect_37 : decode cX2_aspect 37 = .ok (.ireturn, 1) := by decide +kernel
theorem dX2_aspect_38 : decode cX2_aspect 38 = .ok (.iload_n 1, 1) := by decide +kernel
theorem dX2_aspect_39 : decode cX2_aspect 39 = .ok (.invokestatic 95, 3) := by decide +kernel
theorem dX2_aspect_42 : decode cX2_aspect 42 = .ok (.ireturn, 1) := by decide +kernel
theorem dX2_aspect_43 : decode cX2_aspect 43 = .ok (.iload_n 1, 1) := by decide +kernel
theorem dX2_aspect_44 : decode cX2_aspect 44 = .ok (.ifCond .lt 10, 3) := by decide +kernel
theorem dX2_aspect_47 : decode cX2_aspect 47 = .ok (.iload_n 1, 1) := by decide +kernel
theorem dX2_aspect_48 : decode cX2_aspect 48 = .ok (.sipush 2646, 3) := by decide +kernel
theorem dX2_aspect_51 : decode cX2_aspect 51 = .ok (.if_icmp .lt 7, 3) := by decide +kernel
theorem dX2_aspect_54 : decode cX2_aspect 54 = .ok (.iconst (-1), 1) := by decide +kernel
theorem dX2_aspect_55 : decode cX2_aspect 55 = .ok (.goto 9, 3) := by decide +kernel
theorem dX2_aspect_58 : decode cX2_aspect 58 = .ok (.aload_n 0, 1) := by decide +kernel
theorem dX2_aspect_59 : decode cX2_aspect 59 = .ok (.getfield 11, 3) := by decide +kernel
theorem dX2_aspect_62 : decode cX2_aspect 62 = .ok (.iload_n 1, 1) := by decide +kernel
theorem dX2_aspect_63 : decode cX2_aspect 63 = .ok (.iaload, 1) := by decide +kernel
theorem dX2_aspect_64 : decode cX2_aspect 64 = .ok (.ireturn, 1) := by decide +kernel
theorem dX2_slotOf_0 : decode cX2_slotOf 0 = .ok (.iload_n 0, 1) := by decide +kernel
theorem dX2_slotOf_1 : decode cX2_slotOf 1 = .ok (.ifCond .lt 29, 3) := by decide +kernel
theorem dX2_slotOf_4 : decode cX2_slotOf 4 = .ok (.iload_n 0, 1) := by decide +kernel
theorem dX2_slotOf_5 : decode cX2_slotOf 5 = .ok (.bipush 6, 2) := by decide +kernel
theorem dX2_slotOf_7 : decode cX2_slotOf 7 = .ok (.if_icmp .ge 23, 3) := by decide +kernel
theorem dX2_slotOf_10 : decode cX2_slotOf 10 = .ok (.iload_n 1, 1) := by decide +kernel
theorem dX2_slotOf_11 : decode cX2_slotOf 11 = .ok (.ifCond .lt 19, 3) := by decide +kernel
theorem dX2_slotOf_14 : decode cX2_slotOf 14 = .ok (.iload_n 1, 1) := by decide +kernel
theorem dX2_slotOf_15 : decode cX2_slotOf 15 = .ok (.bipush 20, 2) := by decide +kernel
theorem dX2_slotOf_17 : decode cX2_slotOf 17 = .ok (.if_icmp .gt 13, 3) := by decide +kernel
theorem dX2_slotOf_20 : decode cX2_slotOf 20 = .ok (.iload_n 2, 1) := by decide +kernel
theorem dX2_slotOf_21 : decode cX2_slotOf 21 = .ok (.ifCond .lt 9, 3) := by decide +kernel
theorem dX2_slotOf_24 : decode cX2_slotOf 24 = .ok (.iload_n 2, 1) := by decide +kernel
theorem dX2_slotOf_25 : decode cX2_slotOf 25 = .ok (.bipush 20, 2) := by decide +kernel
theorem dX2_slotOf_27 : decode cX2_slotOf 27 = .ok (.if_icmp .le 5, 3) := by decide +kernel
theorem dX2_slotOf_30 : decode cX2_slotOf 30 = .ok (.iconst (-1), 1) := by decide +kernel
theorem dX2_slotOf_31 : decode cX2_slotOf 31 = .ok (.ireturn, 1) := by decide +kernel
theorem dX2_slotOf_32 : decode cX2_slotOf 32 = .ok (.iload_n 0, 1) := by decide +kernel
theorem dX2_slotOf_33 : decode cX2_slotOf 33 = .ok (.bipush 21, 2) := by decide +kernel
theorem dX2_slotOf_35 : decode cX2_slotOf 35 = .ok (.imul, 1) := by decide +kernel
theorem dX2_slotOf_36 : decode cX2_slotOf 36 = .ok (.iload_n 1, 1) := by decide +kernel
theorem dX2_slotOf_37 : decode cX2_slotOf 37 = .ok (.iadd, 1) := by decide +kernel
theorem dX2_slotOf_38 : decode cX2_slotOf 38 = .ok (.bipush 21, 2) := by decide +kernel
theorem dX2_slotOf_40 : decode cX2_slotOf 40 = .ok (.imul, 1) := by decide +kernel
theorem dX2_slotOf_41 : decode cX2_slotOf 41 = .ok (.iload_n 2, 1) := by decide +kernel
theorem dX2_slotOf_42 : decode cX2_slotOf 42 = .ok (.iadd, 1) := by decide +kernel
theorem dX2_slotOf_43 : decode cX2_slotOf 43 = .ok (.ireturn, 1) := by decide +kernel
theorem dX2_kindOf_0 : decode cX2_kindOf 0 = .ok (.iload_n 0, 1) := by decide +kernel
theorem dX2_kindOf_1 : decode cX2_kindOf 1 = .ok (.sipush 441, 3) := by decide +kernel
theorem dX2_kindOf_4 : decode cX2_kindOf 4 = .ok (.idiv, 1) := by decide +kernel
theorem dX2_kindOf_5 : decode cX2_kindOf 5 = .ok (.ireturn, 1) := by decide +kernel
theorem dX2_numberOf_0 : decode cX2_numberOf 0 = .ok (.iload_n 0, 1) := by decide +kernel
theorem dX2_numberOf_1 : decode cX2_numberOf 1 = .ok (.bipush 21, 2) := by decide +kernel
theorem dX2_numberOf_3 : decode cX2_numberOf 3 = .ok (.idiv, 1) := by decide +kernel
theorem dX2_numberOf_4 : decode cX2_numberOf 4 = .ok (.bipush 21, 2) := by decide +kernel
theorem dX2_numberOf_6 : decode cX2_numberOf 6 = .ok (.irem, 1) := by decide +kernel
theorem dX2_numberOf_7 : decode cX2_numberOf 7 = .ok (.ireturn, 1) := by decide +kernel
theorem dX2_measureOf_0 : decode cX2_measureOf 0 = .ok (.iload_n 0, 1) := by decide +kernel
theorem dX2_measureOf_1 : decode cX2_measureOf 1 = .ok (.bipush 21, 2) := by decide +kernel
theorem dX2_measureOf_3 : decode cX2_measureOf 3 = .ok (.irem, 1) := by decide +kernel
theorem dX2_measureOf_4 : decode cX2_measureOf 4 = .ok (.ireturn, 1) := by decide +kernel
theorem dX2_codeOf_0 : decode cX2_codeOf 0 = .ok (.iload_n 0, 1) := by decide +kernel
theorem dX2_codeOf_1 : decode cX2_codeOf 1 = .ok (.invokestatic 98, 3) := by decide +kernel
theorem dX2_codeOf_4 : decode cX2_codeOf 4 = .ok (.sipush 1024, 3) := by decide +kernel
theorem dX2_codeOf_7 : decode cX2_codeOf 7 = .ok (.imul, 1) := by decide +kernel
theorem dX2_codeOf_8 : decode cX2_codeOf 8 = .ok (.iload_n 0, 1) := by decide +kernel
theorem dX2_codeOf_9 : decode cX2_codeOf 9 = .ok (.invokestatic 92, 3) := by decide +kernel
theorem dX2_codeOf_12 : decode cX2_codeOf 12 = .ok (.bipush 32, 2) := by decide +kernel
theorem dX2_codeOf_14 : decode cX2_codeOf 14 = .ok (.imul, 1) := by decide +kernel
theorem dX2_codeOf_15 : decode cX2_codeOf 15 = .ok (.iadd, 1) := by decide +kernel
theorem dX2_codeOf_16 : decode cX2_codeOf 16 = .ok (.iload_n 0, 1) := by decide +kernel
theorem dX2_codeOf_17 : decode cX2_codeOf 17 = .ok (.invokestatic 95, 3) := by decide +kernel
theorem dX2_codeOf_20 : decode cX2_codeOf 20 = .ok (.iadd, 1) := by decide +kernel
theorem dX2_codeOf_21 : decode cX2_codeOf 21 = .ok (.ireturn, 1) := by decide +kernel
theorem dX3_init_0 : decode cX3_init 0 = .ok (.aload_n 0, 1) := by decide +kernel
theorem dX3_init_1 : decode cX3_init 1 = .ok (.invokespecial 3, 3) := by decide +kernel
theorem dX3_init_4 : decode cX3_init 4 = .ok (.aload_n 0, 1) := by decide +kernel
theorem dX3_init_5 : decode cX3_init 5 = .ok (.bipush 21, 2) := by decide +kernel
theorem dX3_init_7 : decode cX3_init 7 = .ok (.newarray .int, 2) := by decide +kernel
theorem dX3_init_9 : decode cX3_init 9 = .ok (.putfield 9, 3) := by decide +kernel
theorem dX3_init_12 : decode cX3_init 12 = .ok (.return_, 1) := by decide +kernel
theorem dX3_tells_0 : decode cX3_tells 0 = .ok (.aload_n 0, 1) := by decide +kernel
theorem dX3_tells_1 : decode cX3_tells 1 = .ok (.iload_n 1, 1) := by decide +kernel
theorem dX3_tells_2 : decode cX3_tells 2 = .ok (.iload_n 3, 1) := by decide +kernel
theorem dX3_tells_3 : decode cX3_tells 3 = .ok (.invokevirtual 15, 3) := by decide +kernel
theorem dX3_tells_6 : decode cX3_tells 6 = .ok (.aload_n 0, 1) := by decide +kernel
theorem dX3_tells_7 : decode cX3_tells 7 = .ok (.iload_n 1, 1) := by decide +kernel
theorem dX3_tells_8 : decode cX3_tells 8 = .ok (.iload_n 2, 1) := by decide +kernel
theorem dX3_tells_9 : decode cX3_tells 9 = .ok (.iload_n 3, 1) := by decide +kernel
theorem dX3_tells_10 : decode cX3_tells 10 = .ok (.invokevirtual 19, 3) := by decide +kernel
theorem dX3_tells_13 : decode cX3_tells 13 = .ok (.ireturn, 1) := by decide +kernel
theorem dX3_reckon_0 : decode cX3_reckon 0 = .ok (.aload_n 0, 1) := by decide +kernel
theorem dX3_reckon_1 : decode cX3_reckon 1 = .ok (.getfield 9, 3) := by decide +kernel
theorem dX3_reckon_4 : decode cX3_reckon 4 = .ok (.iconst 0, 1) := by decide +kernel
theorem dX3_reckon_5 : decode cX3_reckon 5 = .ok (.invokestatic 23, 3) := by decide +kernel
theorem dX3_reckon_8 : decode cX3_reckon 8 = .ok (.aload_n 0, 1) := by decide +kernel
theorem dX3_reckon_9 : decode cX3_reckon 9 = .ok (.getfield 9, 3) := by decide +kernel
theorem dX3_reckon_12 : decode cX3_reckon 12 = .ok (.iconst 0, 1) := by decide +kernel
theorem dX3_reckon_13 : decode cX3_reckon 13 = .ok (.iconst 1, 1) := by decide +kernel
theorem dX3_reckon_14 : decode cX3_reckon 14 = .ok (.iastore, 1) := by decide +kernel
theorem dX3_reckon_15 : decode cX3_reckon 15 = .ok (.iload_n 1, 1) := by decide +kernel
theorem dX3_reckon_16 : decode cX3_reckon 16 = .ok (.bipush 7, 2) := by decide +kernel
theorem dX3_reckon_18 : decode cX3_reckon 18 = .ok (.if_icmp .ne 11, 3) := by decide +kernel
theorem dX3_reckon_21 : decode cX3_reckon 21 = .ok (.iconst 2, 1) := by decide +kernel
theorem dX3_reckon_22 : decode cX3_reckon 22 = .ok (.iload_n 2, 1) := by decide +kernel
theorem dX3_reckon_23 : decode cX3_reckon 23 = .ok (.imul, 1) := by decide +kernel
theorem dX3_reckon_24 : decode cX3_reckon 24 = .ok (.iconst 1, 1) := by decide +kernel
theorem dX3_reckon_25 : decode cX3_reckon 25 = .ok (.isub, 1) := by decide +kernel
theorem dX3_reckon_26 : decode cX3_reckon 26 = .ok (.goto 4, 3) := by decide +kernel
theorem dX3_reckon_29 : decode cX3_reckon 29 = .ok (.iload_n 2, 1) := by decide +kernel
theorem dX3_reckon_30 : decode cX3_reckon 30 = .ok (.istore_n 3, 1) := by decide +kernel
theorem dX3_reckon_31 : decode cX3_reckon 31 = .ok (.iload_n 1, 1) := by decide +kernel
theorem dX3_reckon_32 : decode cX3_reckon 32 = .ok (.iconst 3, 1) := by decide +kernel
theorem dX3_reckon_33 : decode cX3_reckon 33 = .ok (.if_icmp .eq 14, 3) := by decide +kernel
theorem dX3_reckon_36 : decode cX3_reckon 36 = .ok (.iload_n 1, 1) := by decide +kernel
theorem dX3_reckon_37 : decode cX3_reckon 37 = .ok (.iconst 4, 1) := by decide +kernel
theorem dX3_reckon_38 : decode cX3_reckon 38 = .ok (.if_icmp .eq 9, 3) := by decide +kernel
theorem dX3_reckon_41 : decode cX3_reckon 41 = .ok (.iload_n 1, 1) := by decide +kernel
theorem dX3_reckon_42 : decode cX3_reckon 42 = .ok (.bipush 7, 2) := by decide +kernel
theorem dX3_reckon_44 : decode cX3_reckon 44 = .ok (.if_icmp .ne 7, 3) := by decide +kernel
theorem dX3_reckon_47 : decode cX3_reckon 47 = .ok (.iconst 1, 1) := by decide +kernel
theorem dX3_reckon_48 : decode cX3_reckon 48 = .ok (.goto 4, 3) := by decide +kernel
theorem dX3_reckon_51 : decode cX3_reckon 51 = .ok (.iconst 0, 1) := by decide +kernel
theorem dX3_reckon_52 : decode cX3_reckon 52 = .ok (.istore 4, 2) := by decide +kernel
theorem dX3_reckon_54 : decode cX3_reckon 54 = .ok (.iload_n 1, 1) := by decide +kernel
theorem dX3_reckon_55 : decode cX3_reckon 55 = .ok (.iconst 2, 1) := by decide +kernel
theorem dX3_reckon_56 : decode cX3_reckon 56 = .ok (.if_icmp .eq 14, 3) := by decide +kernel
theorem dX3_reckon_59 : decode cX3_reckon 59 = .ok (.iload_n 1, 1) := by decide +kernel
theorem dX3_reckon_60 : decode cX3_reckon 60 = .ok (.iconst 4, 1) := by decide +kernel
theorem dX3_reckon_61 : decode cX3_reckon 61 = .ok (.if_icmp .eq 9, 3) := by decide +kernel
theorem dX3_reckon_64 : decode cX3_reckon 64 = .ok (.iload_n 1, 1) := by decide +kernel
theorem dX3_reckon_65 : decode cX3_reckon 65 = .ok (.bipush 7, 2) := by decide +kernel
theorem dX3_reckon_67 : decode cX3_reckon 67 = .ok (.if_icmp .ne 7, 3) := by decide +kernel
theorem dX3_reckon_70 : decode cX3_reckon 70 = .ok (.iconst 1, 1) := by decide +kernel
theorem dX3_reckon_71 : decode cX3_reckon 71 = .ok (.goto 4, 3) := by decide +kernel
theorem dX3_reckon_74 : decode cX3_reckon 74 = .ok (.iconst 0, 1) := by decide +kernel
theorem dX3_reckon_75 : decode cX3_reckon 75 = .ok (.istore 5, 2) := by decide +kernel
theorem dX3_reckon_77 : decode cX3_reckon 77 = .ok (.iconst 1, 1) := by decide +kernel
theorem dX3_reckon_78 : decode cX3_reckon 78 = .ok (.istore 6, 2) := by decide +kernel
theorem dX3_reckon_80 : decode cX3_reckon 80 = .ok (.iload 6, 2) := by decide +kernel
theorem dX3_reckon_82 : decode cX3_reckon 82 = .ok (.iload_n 3, 1) := by decide +kernel
theorem dX3_reckon_83 : decode cX3_reckon 83 = .ok (.if_icmp .gt 51, 3) := by decide +kernel
theorem dX3_reckon_86 : decode cX3_reckon 86 = .ok (.iload 6, 2) := by decide +kernel
theorem dX3_reckon_88 : decode cX3_reckon 88 = .ok (.bipush 20, 2) := by decide +kernel
theorem dX3_reckon_90 : decode cX3_reckon 90 = .ok (.if_icmp .gt 44, 3) := by decide +kernel
theorem dX3_reckon_93 : decode cX3_reckon 93 = .ok (.iload 4, 2) := by decide +kernel
theorem dX3_reckon_95 : decode cX3_reckon 95 = .ok (.ifCond .eq 13, 3) := by decide +kernel
theorem dX3_reckon_98 : decode cX3_reckon 98 = .ok (.iload 6, 2) := by decide +kernel
theorem dX3_reckon_100 : decode cX3_reckon 100 = .ok (.iconst 2, 1) := by decide +kernel
theorem dX3_reckon_101 : decode cX3_reckon 101 = .ok (.irem, 1) := by decide +kernel
theorem dX3_reckon_102 : decode cX3_reckon 102 = .ok (.ifCond .ne 6, 3) := by decide +kernel
theorem dX3_reckon_105 : decode cX3_reckon 105 = .ok (.goto 23, 3) := by decide +kernel
theorem dX3_reckon_108 : decode cX3_reckon 108 = .ok (.iload 5, 2) := by decide +kernel
theorem dX3_reckon_110 : decode cX3_reckon 110 = .ok (.ifCond .eq 12, 3) := by decide +kernel
theorem dX3_reckon_113 : decode cX3_reckon 113 = .ok (.aload_n 0, 1) := by decide +kernel
theorem dX3_reckon_114 : decode cX3_reckon 114 = .ok (.iload 6, 2) := by decide +kernel
theorem dX3_reckon_116 : decode cX3_reckon 116 = .ok (.invokevirtual 29, 3) := by decide +kernel
theorem dX3_reckon_119 : decode cX3_reckon 119 = .ok (.goto 9, 3) := by decide +kernel
theorem dX3_reckon_122 : decode cX3_reckon 122 = .ok (.aload_n 0, 1) := by decide +kernel
theorem dX3_reckon_123 : decode cX3_reckon 123 = .ok (.iload 6, 2) := by decide +kernel
theorem dX3_reckon_125 : decode cX3_reckon 125 = .ok (.invokevirtual 33, 3) := by decide +kernel
theorem dX3_reckon_128 : decode cX3_reckon 128 = .ok (.iinc 6 1, 3) := by decide +kernel
theorem dX3_reckon_131 : decode cX3_reckon 131 = .ok (.goto (-51), 3) := by decide +kernel
theorem dX3_reckon_134 : decode cX3_reckon 134 = .ok (.return_, 1) := by decide +kernel
theorem dX3_reckoned_0 : decode cX3_reckoned 0 = .ok (.iload_n 2, 1) := by decide +kernel
theorem dX3_reckoned_1 : decode cX3_reckoned 1 = .ok (.istore 4, 2) := by decide +kernel
theorem dX3_reckoned_3 : decode cX3_reckoned 3 = .ok (.iload_n 1, 1) := by decide +kernel
theorem dX3_reckoned_4 : decode cX3_reckoned 4 = .ok (.iconst 1, 1) := by decide +kernel
theorem dX3_reckoned_5 : decode cX3_reckoned 5 = .ok (.if_icmp .ne 11, 3) := by decide +kernel
theorem dX3_reckoned_8 : decode cX3_reckoned 8 = .ok (.iload_n 2, 1) := by decide +kernel
theorem dX3_reckoned_9 : decode cX3_reckoned 9 = .ok (.iload_n 3, 1) := by decide +kernel
theorem dX3_reckoned_10 : decode cX3_reckoned 10 = .ok (.isub, 1) := by decide +kernel
theorem dX3_reckoned_11 : decode cX3_reckoned 11 = .ok (.istore 4, 2) := by decide +kernel
theorem dX3_reckoned_13 : decode cX3_reckoned 13 = .ok (.goto 19, 3) := by decide +kernel
theorem dX3_reckoned_16 : decode cX3_reckoned 16 = .ok (.iload_n 1, 1) := by decide +kernel
theorem dX3_reckoned_17 : decode cX3_reckoned 17 = .ok (.iconst 5, 1) := by decide +kernel
theorem dX3_reckoned_18 : decode cX3_reckoned 18 = .ok (.if_icmp .ne 14, 3) := by decide +kernel
theorem dX3_reckoned_21 : decode cX3_reckoned 21 = .ok (.iload_n 2, 1) := by decide +kernel
theorem dX3_reckoned_22 : decode cX3_reckoned 22 = .ok (.iload_n 3, 1) := by decide +kernel
theorem dX3_reckoned_23 : decode cX3_reckoned 23 = .ok (.iload_n 3, 1) := by decide +kernel
theorem dX3_reckoned_24 : decode cX3_reckoned 24 = .ok (.iconst 1, 1) := by decide +kernel
theorem dX3_reckoned_25 : decode cX3_reckoned 25 = .ok (.iadd, 1) := by decide +kernel
theorem dX3_reckoned_26 : decode cX3_reckoned 26 = .ok (.imul, 1) := by decide +kernel
theorem dX3_reckoned_27 : decode cX3_reckoned 27 = .ok (.iconst 2, 1) := by decide +kernel
theorem dX3_reckoned_28 : decode cX3_reckoned 28 = .ok (.idiv, 1) := by decide +kernel
theorem dX3_reckoned_29 : decode cX3_reckoned 29 = .ok (.isub, 1) := by decide +kernel
theorem dX3_reckoned_30 : decode cX3_reckoned 30 = .ok (.istore 4, 2) := by decide +kernel
theorem dX3_reckoned_32 : decode cX3_reckoned 32 = .ok (.iload 4, 2) := by decide +kernel
theorem dX3_reckoned_34 : decode cX3_reckoned 34 = .ok (.ifCond .lt 13, 3) := by decide +kernel
theorem dX3_reckoned_37 : decode cX3_reckoned 37 = .ok (.iload 4, 2) := by decide +kernel
theorem dX3_reckoned_39 : decode cX3_reckoned 39 = .ok (.aload_n 0, 1) := by decide +kernel
theorem dX3_reckoned_40 : decode cX3_reckoned 40 = .ok (.getfield 9, 3) := by decide +kernel
theorem dX3_reckoned_43 : decode cX3_reckoned 43 = .ok (.arraylength, 1) := by decide +kernel
theorem dX3_reckoned_44 : decode cX3_reckoned 44 = .ok (.if_icmp .lt 7, 3) := by decide +kernel
theorem dX3_reckoned_47 : decode cX3_reckoned 47 = .ok (.iconst 0, 1) := by decide +kernel
theorem dX3_reckoned_48 : decode cX3_reckoned 48 = .ok (.goto 10, 3) := by decide +kernel
theorem dX3_reckoned_51 : decode cX3_reckoned 51 = .ok (.aload_n 0, 1) := by decide +kernel
theorem dX3_reckoned_52 : decode cX3_reckoned 52 = .ok (.getfield 9, 3) := by decide +kernel
theorem dX3_reckoned_55 : decode cX3_reckoned 55 = .ok (.iload 4, 2) := by decide +kernel
theorem dX3_reckoned_57 : decode cX3_reckoned 57 = .ok (.iaload, 1) := by decide +kernel
theorem dX3_reckoned_58 : decode cX3_reckoned 58 = .ok (.ireturn, 1) := by decide +kernel
theorem dX3_takeOften_0 : decode cX3_takeOften 0 = .ok (.iload_n 1, 1) := by decide +kernel
theorem dX3_takeOften_1 : decode cX3_takeOften 1 = .ok (.iconst 1, 1) := by decide +kernel
theorem dX3_takeOften_2 : decode cX3_takeOften 2 = .ok (.if_icmp .ge 4, 3) := by decide +kernel
theorem dX3_takeOften_5 : decode cX3_takeOften 5 = .ok (.return_, 1) := by decide +kernel
theorem dX3_takeOften_6 : decode cX3_takeOften 6 = .ok (.iload_n 1, 1) := by decide +kernel
theorem dX3_takeOften_7 : decode cX3_takeOften 7 = .ok (.istore_n 2, 1) := by decide +kernel
theorem dX3_takeOften_8 : decode cX3_takeOften 8 = .ok (.iload_n 2, 1) := by decide +kernel
theorem dX3_takeOften_9 : decode cX3_takeOften 9 = .ok (.aload_n 0, 1) := by decide +kernel
theorem dX3_takeOften_10 : decode cX3_takeOften 10 = .ok (.getfield 9, 3) := by decide +kernel
theorem dX3_takeOften_13 : decode cX3_takeOften 13 = .ok (.arraylength, 1) := by decide +kernel
theorem dX3_takeOften_14 : decode cX3_takeOften 14 = .ok (.if_icmp .ge 26, 3) := by decide +kernel
theorem dX3_takeOften_17 : decode cX3_takeOften 17 = .ok (.aload_n 0, 1) := by decide +kernel
theorem dX3_takeOften_18 : decode cX3_takeOften 18 = .ok (.getfield 9, 3) := by decide +kernel
theorem dX3_takeOften_21 : decode cX3_takeOften 21 = .ok (.iload_n 2, 1) := by decide +kernel
theorem dX3_takeOften_22 : decode cX3_takeOften 22 = .ok (.dup2, 1) := by decide +kernel
theorem dX3_takeOften_23 : decode cX3_takeOften 23 = .ok (.iaload, 1) := by decide +kernel
theorem dX3_takeOften_24 : decode cX3_takeOften 24 = .ok (.aload_n 0, 1) := by decide +kernel
theorem dX3_takeOften_25 : decode cX3_takeOften 25 = .ok (.getfield 9, 3) := by decide +kernel
theorem dX3_takeOften_28 : decode cX3_takeOften 28 = .ok (.iload_n 2, 1) := by decide +kernel
theorem dX3_takeOften_29 : decode cX3_takeOften 29 = .ok (.iload_n 1, 1) := by decide +kernel
theorem dX3_takeOften_30 : decode cX3_takeOften 30 = .ok (.isub, 1) := by decide +kernel
theorem dX3_takeOften_31 : decode cX3_takeOften 31 = .ok (.iaload, 1) := by decide +kernel
theorem dX3_takeOften_32 : decode cX3_takeOften 32 = .ok (.iadd, 1) := by decide +kernel
theorem dX3_takeOften_33 : decode cX3_takeOften 33 = .ok (.iastore, 1) := by decide +kernel
theorem dX3_takeOften_34 : decode cX3_takeOften 34 = .ok (.iinc 2 1, 3) := by decide +kernel
theorem dX3_takeOften_37 : decode cX3_takeOften 37 = .ok (.goto (-29), 3) := by decide +kernel
theorem dX3_takeOften_40 : decode cX3_takeOften 40 = .ok (.return_, 1) := by decide +kernel
theorem dX3_takeOnce_0 : decode cX3_takeOnce 0 = .ok (.iload_n 1, 1) := by decide +kernel
theorem dX3_takeOnce_1 : decode cX3_takeOnce 1 = .ok (.iconst 1, 1) := by decide +kernel
theorem dX3_takeOnce_2 : decode cX3_takeOnce 2 = .ok (.if_icmp .ge 4, 3) := by decide +kernel
theorem dX3_takeOnce_5 : decode cX3_takeOnce 5 = .ok (.return_, 1) := by decide +kernel
theorem dX3_takeOnce_6 : decode cX3_takeOnce 6 = .ok (.aload_n 0, 1) := by decide +kernel
theorem dX3_takeOnce_7 : decode cX3_takeOnce 7 = .ok (.getfield 9, 3) := by decide +kernel
theorem dX3_takeOnce_10 : decode cX3_takeOnce 10 = .ok (.arraylength, 1) := by decide +kernel
theorem dX3_takeOnce_11 : decode cX3_takeOnce 11 = .ok (.iconst 1, 1) := by decide +kernel
theorem dX3_takeOnce_12 : decode cX3_takeOnce 12 = .ok (.isub, 1) := by decide +kernel
theorem dX3_takeOnce_13 : decode cX3_takeOnce 13 = .ok (.istore_n 2, 1) := by decide +kernel
theorem dX3_takeOnce_14 : decode cX3_takeOnce 14 = .ok (.iload_n 2, 1) := by decide +kernel
theorem dX3_takeOnce_15 : decode cX3_takeOnce 15 = .ok (.iload_n 1, 1) := by decide +kernel
theorem dX3_takeOnce_16 : decode cX3_takeOnce 16 = .ok (.if_icmp .lt 26, 3) := by decide +kernel
theorem dX3_takeOnce_19 : decode cX3_takeOnce 19 = .ok (.aload_n 0, 1) := by decide +kernel
theorem dX3_takeOnce_20 : decode cX3_takeOnce 20 = .ok (.getfield 9, 3) := by decide +kernel
theorem dX3_takeOnce_23 : decode cX3_takeOnce 23 = .ok (.iload_n 2, 1) := by decide +kernel
theorem dX3_takeOnce_24 : decode cX3_takeOnce 24 = .ok (.dup2, 1) := by decide +kernel
theorem dX3_takeOnce_25 : decode cX3_takeOnce 25 = .ok (.iaload, 1) := by decide +kernel
theorem dX3_takeOnce_26 : decode cX3_takeOnce 26 = .ok (.aload_n 0, 1) := by decide +kernel
theorem dX3_takeOnce_27 : decode cX3_takeOnce 27 = .ok (.getfield 9, 3) := by decide +kernel
theorem dX3_takeOnce_30 : decode cX3_takeOnce 30 = .ok (.iload_n 2, 1) := by decide +kernel
theorem dX3_takeOnce_31 : decode cX3_takeOnce 31 = .ok (.iload_n 1, 1) := by decide +kernel
theorem dX3_takeOnce_32 : decode cX3_takeOnce 32 = .ok (.isub, 1) := by decide +kernel
theorem dX3_takeOnce_33 : decode cX3_takeOnce 33 = .ok (.iaload, 1) := by decide +kernel
theorem dX3_takeOnce_34 : decode cX3_takeOnce 34 = .ok (.iadd, 1) := by decide +kernel
theorem dX3_takeOnce_35 : decode cX3_takeOnce 35 = .ok (.iastore, 1) := by decide +kernel
theorem dX3_takeOnce_36 : decode cX3_takeOnce 36 = .ok (.iinc 2 (-1), 3) := by decide +kernel
theorem dX3_takeOnce_39 : decode cX3_takeOnce 39 = .ok (.goto (-25), 3) := by decide +kernel
theorem dX3_takeOnce_42 : decode cX3_takeOnce 42 = .ok (.return_, 1) := by decide +kernel
theorem dX4_init_0 : decode cX4_init 0 = .ok (.aload_n 0, 1) := by decide +kernel
theorem dX4_init_1 : decode cX4_init 1 = .ok (.invokespecial 3, 3) := by decide +kernel
theorem dX4_init_4 : decode cX4_init 4 = .ok (.aload_n 0, 1) := by decide +kernel
theorem dX4_init_5 : decode cX4_init 5 = .ok (.bipush 21, 2) := by decide +kernel
theorem dX4_init_7 : decode cX4_init 7 = .ok (.newarray .int, 2) := by decide +kernel
theorem dX4_init_9 : decode cX4_init 9 = .ok (.putfield 9, 3) := by decide +kernel
theorem dX4_init_12 : decode cX4_init 12 = .ok (.return_, 1) := by decide +kernel
theorem dX4_timesOf_0 : decode cX4_timesOf 0 = .ok (.iload_n 1, 1) := by decide +kernel
theorem dX4_timesOf_1 : decode cX4_timesOf 1 = .ok (.iconst 1, 1) := by decide +kernel
theorem dX4_timesOf_2 : decode cX4_timesOf 2 = .ok (.if_icmp .lt 9, 3) := by decide +kernel
theorem dX4_timesOf_5 : decode cX4_timesOf 5 = .ok (.iload_n 1, 1) := by decide +kernel
theorem dX4_timesOf_6 : decode cX4_timesOf 6 = .ok (.bipush 20, 2) := by decide +kernel
theorem dX4_timesOf_8 : decode cX4_timesOf 8 = .ok (.if_icmp .le 7, 3) := by decide +kernel
theorem dX4_timesOf_11 : decode cX4_timesOf 11 = .ok (.iconst 0, 1) := by decide +kernel
theorem dX4_timesOf_12 : decode cX4_timesOf 12 = .ok (.goto 9, 3) := by decide +kernel
theorem dX4_timesOf_15 : decode cX4_timesOf 15 = .ok (.aload_n 0, 1) := by decide +kernel
theorem dX4_timesOf_16 : decode cX4_timesOf 16 = .ok (.getfield 9, 3) := by decide +kernel
theorem dX4_timesOf_19 : decode cX4_timesOf 19 = .ok (.iload_n 1, 1) := by decide +kernel
theorem dX4_timesOf_20 : decode cX4_timesOf 20 = .ok (.iaload, 1) := by decide +kernel
theorem dX4_timesOf_21 : decode cX4_timesOf 21 = .ok (.ireturn, 1) := by decide +kernel
theorem dX4_put_0 : decode cX4_put 0 = .ok (.iload_n 1, 1) := by decide +kernel
theorem dX4_put_1 : decode cX4_put 1 = .ok (.iconst 1, 1) := by decide +kernel
theorem dX4_put_2 : decode cX4_put 2 = .ok (.if_icmp .lt 19, 3) := by decide +kernel
theorem dX4_put_5 : decode cX4_put 5 = .ok (.iload_n 1, 1) := by decide +kernel
theorem dX4_put_6 : decode cX4_put 6 = .ok (.bipush 20, 2) := by decide +kernel
theorem dX4_put_8 : decode cX4_put 8 = .ok (.if_icmp .gt 13, 3) := by decide +kernel
theorem dX4_put_11 : decode cX4_put 11 = .ok (.aload_n 0, 1) := by decide +kernel
theorem dX4_put_12 : decode cX4_put 12 = .ok (.getfield 9, 3) := by decide +kernel
theorem dX4_put_15 : decode cX4_put 15 = .ok (.iload_n 1, 1) := by decide +kernel
theorem dX4_put_16 : decode cX4_put 16 = .ok (.dup2, 1) := by decide +kernel
theorem dX4_put_17 : decode cX4_put 17 = .ok (.iaload, 1) := by decide +kernel
theorem dX4_put_18 : decode cX4_put 18 = .ok (.iload_n 2, 1) := by decide +kernel
theorem dX4_put_19 : decode cX4_put 19 = .ok (.iadd, 1) := by decide +kernel
theorem dX4_put_20 : decode cX4_put 20 = .ok (.iastore, 1) := by decide +kernel
theorem dX4_put_21 : decode cX4_put 21 = .ok (.return_, 1) := by decide +kernel
theorem dX4_sum_0 : decode cX4_sum 0 = .ok (.iconst 0, 1) := by decide +kernel
theorem dX4_sum_1 : decode cX4_sum 1 = .ok (.istore_n 1, 1) := by decide +kernel
theorem dX4_sum_2 : decode cX4_sum 2 = .ok (.iconst 1, 1) := by decide +kernel
theorem dX4_sum_3 : decode cX4_sum 3 = .ok (.istore_n 2, 1) := by decide +kernel
theorem dX4_sum_4 : decode cX4_sum 4 = .ok (.iload_n 2, 1) := by decide +kernel
theorem dX4_sum_5 : decode cX4_sum 5 = .ok (.bipush 20, 2) := by decide +kernel
theorem dX4_sum_7 : decode cX4_sum 7 = .ok (.if_icmp .gt 20, 3) := by decide +kernel
theorem dX4_sum_10 : decode cX4_sum 10 = .ok (.iload_n 1, 1) := by decide +kernel
theorem dX4_sum_11 : decode cX4_sum 11 = .ok (.iload_n 2, 1) := by decide +kernel
theorem dX4_sum_12 : decode cX4_sum 12 = .ok (.aload_n 0, 1) := by decide +kernel
theorem dX4_sum_13 : decode cX4_sum 13 = .ok (.getfield 9, 3) := by decide +kernel
theorem dX4_sum_16 : decode cX4_sum 16 = .ok (.iload_n 2, 1) := by decide +kernel
theorem dX4_sum_17 : decode cX4_sum 17 = .ok (.iaload, 1) := by decide +kernel
theorem dX4_sum_18 : decode cX4_sum 18 = .ok (.imul, 1) := by decide +kernel
theorem dX4_sum_19 : decode cX4_sum 19 = .ok (.iadd, 1) := by decide +kernel
theorem dX4_sum_20 : decode cX4_sum 20 = .ok (.istore_n 1, 1) := by decide +kernel
theorem dX4_sum_21 : decode cX4_sum 21 = .ok (.iinc 2 1, 3) := by decide +kernel
theorem dX4_sum_24 : decode cX4_sum 24 = .ok (.goto (-20), 3) := by decide +kernel
theorem dX4_sum_27 : decode cX4_sum 27 = .ok (.iload_n 1, 1) := by decide +kernel
theorem dX4_sum_28 : decode cX4_sum 28 = .ok (.ireturn, 1) := by decide +kernel
theorem dX4_parts_0 : decode cX4_parts 0 = .ok (.iconst 0, 1) := by decide +kernel
theorem dX4_parts_1 : decode cX4_parts 1 = .ok (.istore_n 1, 1) := by decide +kernel
theorem dX4_parts_2 : decode cX4_parts 2 = .ok (.iconst 1, 1) := by decide +kernel
theorem dX4_parts_3 : decode cX4_parts 3 = .ok (.istore_n 2, 1) := by decide +kernel
theorem dX4_parts_4 : decode cX4_parts 4 = .ok (.iload_n 2, 1) := by decide +kernel
theorem dX4_parts_5 : decode cX4_parts 5 = .ok (.bipush 20, 2) := by decide +kernel
theorem dX4_parts_7 : decode cX4_parts 7 = .ok (.if_icmp .gt 18, 3) := by decide +kernel
theorem dX4_parts_10 : decode cX4_parts 10 = .ok (.iload_n 1, 1) := by decide +kernel
theorem dX4_parts_11 : decode cX4_parts 11 = .ok (.aload_n 0, 1) := by decide +kernel
theorem dX4_parts_12 : decode cX4_parts 12 = .ok (.getfield 9, 3) := by decide +kernel
theorem dX4_parts_15 : decode cX4_parts 15 = .ok (.iload_n 2, 1) := by decide +kernel
theorem dX4_parts_16 : decode cX4_parts 16 = .ok (.iaload, 1) := by decide +kernel
theorem dX4_parts_17 : decode cX4_parts 17 = .ok (.iadd, 1) := by decide +kernel
theorem dX4_parts_18 : decode cX4_parts 18 = .ok (.istore_n 1, 1) := by decide +kernel
theorem dX4_parts_19 : decode cX4_parts 19 = .ok (.iinc 2 1, 3) := by decide +kernel
theorem dX4_parts_22 : decode cX4_parts 22 = .ok (.goto (-18), 3) := by decide +kernel
theorem dX4_parts_25 : decode cX4_parts 25 = .ok (.iload_n 1, 1) := by decide +kernel
theorem dX4_parts_26 : decode cX4_parts 26 = .ok (.ireturn, 1) := by decide +kernel
theorem dX4_differentParts_0 : decode cX4_differentParts 0 = .ok (.iconst 0, 1) := by decide +kernel
theorem dX4_differentParts_1 : decode cX4_differentParts 1 = .ok (.istore_n 1, 1) := by decide +kernel
theorem dX4_differentParts_2 : decode cX4_differentParts 2 = .ok (.iconst 1, 1) := by decide +kernel
theorem dX4_differentParts_3 : decode cX4_differentParts 3 = .ok (.istore_n 2, 1) := by decide +kernel
theorem dX4_differentParts_4 : decode cX4_differentParts 4 = .ok (.iload_n 2, 1) := by decide +kernel
theorem dX4_differentParts_5 : decode cX4_differentParts 5 = .ok (.bipush 20, 2) := by decide +kernel
theorem dX4_differentParts_7 : decode cX4_differentParts 7 = .ok (.if_icmp .gt 21, 3) := by decide +kernel
theorem dX4_differentParts_10 : decode cX4_differentParts 10 = .ok (.aload_n 0, 1) := by decide +kernel
theorem dX4_differentParts_11 : decode cX4_differentParts 11 = .ok (.getfield 9, 3) := by decide +kernel
theorem dX4_differentParts_14 : decode cX4_differentParts 14 = .ok (.iload_n 2, 1) := by decide +kernel
theorem dX4_differentParts_15 : decode cX4_differentParts 15 = .ok (.iaload, 1) := by decide +kernel
theorem dX4_differentParts_16 : decode cX4_differentParts 16 = .ok (.ifCond .le 6, 3) := by decide +kernel
theorem dX4_differentParts_19 : decode cX4_differentParts 19 = .ok (.iinc 1 1, 3) := by decide +kernel
theorem dX4_differentParts_22 : decode cX4_differentParts 22 = .ok (.iinc 2 1, 3) := by decide +kernel
theorem dX4_differentParts_25 : decode cX4_differentParts 25 = .ok (.goto (-21), 3) := by decide +kernel
theorem dX4_differentParts_28 : decode cX4_differentParts 28 = .ok (.iload_n 1, 1) := by decide +kernel
theorem dX4_differentParts_29 : decode cX4_differentParts 29 = .ok (.ireturn, 1) := by decide +kernel
theorem dX4_isUnlike_0 : decode cX4_isUnlike 0 = .ok (.iconst 1, 1) := by decide +kernel
theorem dX4_isUnlike_1 : decode cX4_isUnlike 1 = .ok (.istore_n 1, 1) := by decide +kernel
theorem dX4_isUnlike_2 : decode cX4_isUnlike 2 = .ok (.iload_n 1, 1) := by decide +kernel
theorem dX4_isUnlike_3 : decode cX4_isUnlike 3 = .ok (.bipush 20, 2) := by decide +kernel
theorem dX4_isUnlike_5 : decode cX4_isUnlike 5 = .ok (.if_icmp .gt 21, 3) := by decide +kernel
theorem dX4_isUnlike_8 : decode cX4_isUnlike 8 = .ok (.aload_n 0, 1) := by decide +kernel
theorem dX4_isUnlike_9 : decode cX4_isUnlike 9 = .ok (.getfield 9, 3) := by decide +kernel
theorem dX4_isUnlike_12 : decode cX4_isUnlike 12 = .ok (.iload_n 1, 1) := by decide +kernel
theorem dX4_isUnlike_13 : decode cX4_isUnlike 13 = .ok (.iaload, 1) := by decide +kernel
theorem dX4_isUnlike_14 : decode cX4_isUnlike 14 = .ok (.iconst 1, 1) := by decide +kernel
theorem dX4_isUnlike_15 : decode cX4_isUnlike 15 = .ok (.if_icmp .le 5, 3) := by decide +kernel
theorem dX4_isUnlike_18 : decode cX4_isUnlike 18 = .ok (.iconst 0, 1) := by decide +kernel
theorem dX4_isUnlike_19 : decode cX4_isUnlike 19 = .ok (.ireturn, 1) := by decide +kernel
theorem dX4_isUnlike_20 : decode cX4_isUnlike 20 = .ok (.iinc 1 1, 3) := by decide +kernel
theorem dX4_isUnlike_23 : decode cX4_isUnlike 23 = .ok (.goto (-21), 3) := by decide +kernel
theorem dX4_isUnlike_26 : decode cX4_isUnlike 26 = .ok (.iconst 1, 1) := by decide +kernel
theorem dX4_isUnlike_27 : decode cX4_isUnlike 27 = .ok (.ireturn, 1) := by decide +kernel
theorem dX4_isOdd_0 : decode cX4_isOdd 0 = .ok (.iconst 2, 1) := by decide +kernel
theorem dX4_isOdd_1 : decode cX4_isOdd 1 = .ok (.istore_n 1, 1) := by decide +kernel
theorem dX4_isOdd_2 : decode cX4_isOdd 2 = .ok (.iload_n 1, 1) := by decide +kernel
theorem dX4_isOdd_3 : decode cX4_isOdd 3 = .ok (.bipush 20, 2) := by decide +kernel
theorem dX4_isOdd_5 : decode cX4_isOdd 5 = .ok (.if_icmp .gt 20, 3) := by decide +kernel
theorem dX4_isOdd_8 : decode cX4_isOdd 8 = .ok (.aload_n 0, 1) := by decide +kernel
theorem dX4_isOdd_9 : decode cX4_isOdd 9 = .ok (.getfield 9, 3) := by decide +kernel
theorem dX4_isOdd_12 : decode cX4_isOdd 12 = .ok (.iload_n 1, 1) := by decide +kernel
theorem dX4_isOdd_13 : decode cX4_isOdd 13 = .ok (.iaload, 1) := by decide +kernel
theorem dX4_isOdd_14 : decode cX4_isOdd 14 = .ok (.ifCond .le 5, 3) := by decide +kernel
theorem dX4_isOdd_17 : decode cX4_isOdd 17 = .ok (.iconst 0, 1) := by decide +kernel
theorem dX4_isOdd_18 : decode cX4_isOdd 18 = .ok (.ireturn, 1) := by decide +kernel
theorem dX4_isOdd_19 : decode cX4_isOdd 19 = .ok (.iinc 1 2, 3) := by decide +kernel
theorem dX4_isOdd_22 : decode cX4_isOdd 22 = .ok (.goto (-20), 3) := by decide +kernel
theorem dX4_isOdd_25 : decode cX4_isOdd 25 = .ok (.iconst 1, 1) := by decide +kernel
theorem dX4_isOdd_26 : decode cX4_isOdd 26 = .ok (.ireturn, 1) := by decide +kernel
theorem dX4_isLike_0 : decode cX4_isLike 0 = .ok (.iconst 1, 1) := by decide +kernel
theorem dX4_isLike_1 : decode cX4_isLike 1 = .ok (.istore_n 2, 1) := by decide +kernel
theorem dX4_isLike_2 : decode cX4_isLike 2 = .ok (.iload_n 2, 1) := by decide +kernel
theorem dX4_isLike_3 : decode cX4_isLike 3 = .ok (.bipush 20, 2) := by decide +kernel
theorem dX4_isLike_5 : decode cX4_isLike 5 = .ok (.if_icmp .gt 26, 3) := by decide +kernel
theorem dX4_isLike_8 : decode cX4_isLike 8 = .ok (.aload_n 0, 1) := by decide +kernel
theorem dX4_isLike_9 : decode cX4_isLike 9 = .ok (.getfield 9, 3) := by decide +kernel
theorem dX4_isLike_12 : decode cX4_isLike 12 = .ok (.iload_n 2, 1) := by decide +kernel
theorem dX4_isLike_13 : decode cX4_isLike 13 = .ok (.iaload, 1) := by decide +kernel
theorem dX4_isLike_14 : decode cX4_isLike 14 = .ok (.aload_n 1, 1) := by decide +kernel
theorem dX4_isLike_15 : decode cX4_isLike 15 = .ok (.getfield 9, 3) := by decide +kernel
theorem dX4_isLike_18 : decode cX4_isLike 18 = .ok (.iload_n 2, 1) := by decide +kernel
theorem dX4_isLike_19 : decode cX4_isLike 19 = .ok (.iaload, 1) := by decide +kernel
theorem dX4_isLike_20 : decode cX4_isLike 20 = .ok (.if_icmp .eq 5, 3) := by decide +kernel
theorem dX4_isLike_23 : decode cX4_isLike 23 = .ok (.iconst 0, 1) := by decide +kernel
theorem dX4_isLike_24 : decode cX4_isLike 24 = .ok (.ireturn, 1) := by decide +kernel
theorem dX4_isLike_25 : decode cX4_isLike 25 = .ok (.iinc 2 1, 3) := by decide +kernel
theorem dX4_isLike_28 : decode cX4_isLike 28 = .ok (.goto (-26), 3) := by decide +kernel
theorem dX4_isLike_31 : decode cX4_isLike 31 = .ok (.iconst 1, 1) := by decide +kernel
theorem dX4_isLike_32 : decode cX4_isLike 32 = .ok (.ireturn, 1) := by decide +kernel
theorem dX4_hasNoneAbove_0 : decode cX4_hasNoneAbove 0 = .ok (.bipush 20, 2) := by decide +kernel
theorem dX4_hasNoneAbove_2 : decode cX4_hasNoneAbove 2 = .ok (.istore_n 2, 1) := by decide +kernel
theorem dX4_hasNoneAbove_3 : decode cX4_hasNoneAbove 3 = .ok (.iload_n 2, 1) := by decide +kernel
theorem dX4_hasNoneAbove_4 : decode cX4_hasNoneAbove 4 = .ok (.iload_n 1, 1) := by decide +kernel
theorem dX4_hasNoneAbove_5 : decode cX4_hasNoneAbove 5 = .ok (.if_icmp .le 25, 3) := by decide +kernel
theorem dX4_hasNoneAbove_8 : decode cX4_hasNoneAbove 8 = .ok (.iload_n 2, 1) := by decide +kernel
theorem dX4_hasNoneAbove_9 : decode cX4_hasNoneAbove 9 = .ok (.iconst 1, 1) := by decide +kernel
theorem dX4_hasNoneAbove_10 : decode cX4_hasNoneAbove 10 = .ok (.if_icmp .lt 20, 3) := by decide +kernel
theorem dX4_hasNoneAbove_13 : decode cX4_hasNoneAbove 13 = .ok (.aload_n 0, 1) := by decide +kernel
theorem dX4_hasNoneAbove_14 : decode cX4_hasNoneAbove 14 = .ok (.getfield 9, 3) := by decide +kernel
theorem dX4_hasNoneAbove_17 : decode cX4_hasNoneAbove 17 = .ok (.iload_n 2, 1) := by decide +kernel
theorem dX4_hasNoneAbove_18 : decode cX4_hasNoneAbove 18 = .ok (.iaload, 1) := by decide +kernel
theorem dX4_hasNoneAbove_19 : decode cX4_hasNoneAbove 19 = .ok (.ifCond .le 5, 3) := by decide +kernel
theorem dX4_hasNoneAbove_22 : decode cX4_hasNoneAbove 22 = .ok (.iconst 0, 1) := by decide +kernel
theorem dX4_hasNoneAbove_23 : decode cX4_hasNoneAbove 23 = .ok (.ireturn, 1) := by decide +kernel
theorem dX4_hasNoneAbove_24 : decode cX4_hasNoneAbove 24 = .ok (.iinc 2 (-1), 3) := by decide +kernel
theorem dX4_hasNoneAbove_27 : decode cX4_hasNoneAbove 27 = .ok (.goto (-24), 3) := by decide +kernel
theorem dX4_hasNoneAbove_30 : decode cX4_hasNoneAbove 30 = .ok (.iconst 1, 1) := by decide +kernel
theorem dX4_hasNoneAbove_31 : decode cX4_hasNoneAbove 31 = .ok (.ireturn, 1) := by decide +kernel
theorem dX4_isOwnTurned_0 : decode cX4_isOwnTurned 0 = .ok (.aload_n 1, 1) := by decide +kernel
theorem dX4_isOwnTurned_1 : decode cX4_isOwnTurned 1 = .ok (.aload_n 0, 1) := by decide +kernel
theorem dX4_isOwnTurned_2 : decode cX4_isOwnTurned 2 = .ok (.invokevirtual 15, 3) := by decide +kernel
theorem dX4_isOwnTurned_5 : decode cX4_isOwnTurned 5 = .ok (.aload_n 0, 1) := by decide +kernel
theorem dX4_isOwnTurned_6 : decode cX4_isOwnTurned 6 = .ok (.aload_n 1, 1) := by decide +kernel
theorem dX4_isOwnTurned_7 : decode cX4_isOwnTurned 7 = .ok (.invokevirtual 19, 3) := by decide +kernel
theorem dX4_isOwnTurned_10 : decode cX4_isOwnTurned 10 = .ok (.ireturn, 1) := by decide +kernel
theorem dX4_isOfKind_0 : decode cX4_isOfKind 0 = .ok (.iload_n 1, 1) := by decide +kernel
theorem dX4_isOfKind_1 : decode cX4_isOfKind 1 = .ok (.tableswitch 168 0 6 #[43, 49, 63, 84, 105, 133, 154], 43) := by decide +kernel
theorem dX4_isOfKind_44 : decode cX4_isOfKind 44 = .ok (.aload_n 0, 1) := by decide +kernel
theorem dX4_isOfKind_45 : decode cX4_isOfKind 45 = .ok (.iload_n 2, 1) := by decide +kernel
theorem dX4_isOfKind_46 : decode cX4_isOfKind 46 = .ok (.invokevirtual 23, 3) := by decide +kernel
theorem dX4_isOfKind_49 : decode cX4_isOfKind 49 = .ok (.ireturn, 1) := by decide +kernel
theorem dX4_isOfKind_50 : decode cX4_isOfKind 50 = .ok (.aload_n 0, 1) := by decide +kernel
theorem dX4_isOfKind_51 : decode cX4_isOfKind 51 = .ok (.invokevirtual 27, 3) := by decide +kernel
theorem dX4_isOfKind_54 : decode cX4_isOfKind 54 = .ok (.iload_n 2, 1) := by decide +kernel
theorem dX4_isOfKind_55 : decode cX4_isOfKind 55 = .ok (.if_icmp .ne 7, 3) := by decide +kernel
theorem dX4_isOfKind_58 : decode cX4_isOfKind 58 = .ok (.iconst 1, 1) := by decide +kernel
theorem dX4_isOfKind_59 : decode cX4_isOfKind 59 = .ok (.goto 4, 3) := by decide +kernel
theorem dX4_isOfKind_62 : decode cX4_isOfKind 62 = .ok (.iconst 0, 1) := by decide +kernel
theorem dX4_isOfKind_63 : decode cX4_isOfKind 63 = .ok (.ireturn, 1) := by decide +kernel
theorem dX4_isOfKind_64 : decode cX4_isOfKind 64 = .ok (.aload_n 0, 1) := by decide +kernel
theorem dX4_isOfKind_65 : decode cX4_isOfKind 65 = .ok (.invokevirtual 31, 3) := by decide +kernel
theorem dX4_isOfKind_68 : decode cX4_isOfKind 68 = .ok (.ifCond .eq 15, 3) := by decide +kernel
theorem dX4_isOfKind_71 : decode cX4_isOfKind 71 = .ok (.aload_n 0, 1) := by decide +kernel
theorem dX4_isOfKind_72 : decode cX4_isOfKind 72 = .ok (.iload_n 2, 1) := by decide +kernel
theorem dX4_isOfKind_73 : decode cX4_isOfKind 73 = .ok (.invokevirtual 23, 3) := by decide +kernel
theorem dX4_isOfKind_76 : decode cX4_isOfKind 76 = .ok (.ifCond .eq 7, 3) := by decide +kernel
theorem dX4_isOfKind_79 : decode cX4_isOfKind 79 = .ok (.iconst 1, 1) := by decide +kernel
theorem dX4_isOfKind_80 : decode cX4_isOfKind 80 = .ok (.goto 4, 3) := by decide +kernel
theorem dX4_isOfKind_83 : decode cX4_isOfKind 83 = .ok (.iconst 0, 1) := by decide +kernel
theorem dX4_isOfKind_84 : decode cX4_isOfKind 84 = .ok (.ireturn, 1) := by decide +kernel
theorem dX4_isOfKind_85 : decode cX4_isOfKind 85 = .ok (.aload_n 0, 1) := by decide +kernel
theorem dX4_isOfKind_86 : decode cX4_isOfKind 86 = .ok (.invokevirtual 35, 3) := by decide +kernel
theorem dX4_isOfKind_89 : decode cX4_isOfKind 89 = .ok (.ifCond .eq 15, 3) := by decide +kernel
theorem dX4_isOfKind_92 : decode cX4_isOfKind 92 = .ok (.aload_n 0, 1) := by decide +kernel
theorem dX4_isOfKind_93 : decode cX4_isOfKind 93 = .ok (.iload_n 2, 1) := by decide +kernel
theorem dX4_isOfKind_94 : decode cX4_isOfKind 94 = .ok (.invokevirtual 23, 3) := by decide +kernel
theorem dX4_isOfKind_97 : decode cX4_isOfKind 97 = .ok (.ifCond .eq 7, 3) := by decide +kernel
theorem dX4_isOfKind_100 : decode cX4_isOfKind 100 = .ok (.iconst 1, 1) := by decide +kernel
theorem dX4_isOfKind_101 : decode cX4_isOfKind 101 = .ok (.goto 4, 3) := by decide +kernel
theorem dX4_isOfKind_104 : decode cX4_isOfKind 104 = .ok (.iconst 0, 1) := by decide +kernel
theorem dX4_isOfKind_105 : decode cX4_isOfKind 105 = .ok (.ireturn, 1) := by decide +kernel
theorem dX4_isOfKind_106 : decode cX4_isOfKind 106 = .ok (.aload_n 0, 1) := by decide +kernel
theorem dX4_isOfKind_107 : decode cX4_isOfKind 107 = .ok (.invokevirtual 35, 3) := by decide +kernel
theorem dX4_isOfKind_110 : decode cX4_isOfKind 110 = .ok (.ifCond .eq 22, 3) := by decide +kernel
theorem dX4_isOfKind_113 : decode cX4_isOfKind 113 = .ok (.aload_n 0, 1) := by decide +kernel
theorem dX4_isOfKind_114 : decode cX4_isOfKind 114 = .ok (.invokevirtual 31, 3) := by decide +kernel
theorem dX4_isOfKind_117 : decode cX4_isOfKind 117 = .ok (.ifCond .eq 15, 3) := by decide +kernel
theorem dX4_isOfKind_120 : decode cX4_isOfKind 120 = .ok (.aload_n 0, 1) := by decide +kernel
theorem dX4_isOfKind_121 : decode cX4_isOfKind 121 = .ok (.iload_n 2, 1) := by decide +kernel
theorem dX4_isOfKind_122 : decode cX4_isOfKind 122 = .ok (.invokevirtual 23, 3) := by decide +kernel
theorem dX4_isOfKind_125 : decode cX4_isOfKind 125 = .ok (.ifCond .eq 7, 3) := by decide +kernel
theorem dX4_isOfKind_128 : decode cX4_isOfKind 128 = .ok (.iconst 1, 1) := by decide +kernel
theorem dX4_isOfKind_129 : decode cX4_isOfKind 129 = .ok (.goto 4, 3) := by decide +kernel
theorem dX4_isOfKind_132 : decode cX4_isOfKind 132 = .ok (.iconst 0, 1) := by decide +kernel
theorem dX4_isOfKind_133 : decode cX4_isOfKind 133 = .ok (.ireturn, 1) := by decide +kernel
theorem dX4_isOfKind_134 : decode cX4_isOfKind 134 = .ok (.aload_n 0, 1) := by decide +kernel
theorem dX4_isOfKind_135 : decode cX4_isOfKind 135 = .ok (.invokevirtual 31, 3) := by decide +kernel
theorem dX4_isOfKind_138 : decode cX4_isOfKind 138 = .ok (.ifCond .eq 15, 3) := by decide +kernel
theorem dX4_isOfKind_141 : decode cX4_isOfKind 141 = .ok (.aload_n 0, 1) := by decide +kernel
theorem dX4_isOfKind_142 : decode cX4_isOfKind 142 = .ok (.invokevirtual 27, 3) := by decide +kernel
theorem dX4_isOfKind_145 : decode cX4_isOfKind 145 = .ok (.iload_n 2, 1) := by decide +kernel
theorem dX4_isOfKind_146 : decode cX4_isOfKind 146 = .ok (.if_icmp .ne 7, 3) := by decide +kernel
theorem dX4_isOfKind_149 : decode cX4_isOfKind 149 = .ok (.iconst 1, 1) := by decide +kernel
theorem dX4_isOfKind_150 : decode cX4_isOfKind 150 = .ok (.goto 4, 3) := by decide +kernel
theorem dX4_isOfKind_153 : decode cX4_isOfKind 153 = .ok (.iconst 0, 1) := by decide +kernel
theorem dX4_isOfKind_154 : decode cX4_isOfKind 154 = .ok (.ireturn, 1) := by decide +kernel
theorem dX4_isOfKind_155 : decode cX4_isOfKind 155 = .ok (.aload_n 0, 1) := by decide +kernel
theorem dX4_isOfKind_156 : decode cX4_isOfKind 156 = .ok (.invokevirtual 27, 3) := by decide +kernel
theorem dX4_isOfKind_159 : decode cX4_isOfKind 159 = .ok (.iload_n 2, 1) := by decide +kernel
theorem dX4_isOfKind_160 : decode cX4_isOfKind 160 = .ok (.if_icmp .gt 7, 3) := by decide +kernel
theorem dX4_isOfKind_163 : decode cX4_isOfKind 163 = .ok (.iconst 1, 1) := by decide +kernel
theorem dX4_isOfKind_164 : decode cX4_isOfKind 164 = .ok (.goto 4, 3) := by decide +kernel
theorem dX4_isOfKind_167 : decode cX4_isOfKind 167 = .ok (.iconst 0, 1) := by decide +kernel
theorem dX4_isOfKind_168 : decode cX4_isOfKind 168 = .ok (.ireturn, 1) := by decide +kernel
theorem dX4_isOfKind_169 : decode cX4_isOfKind 169 = .ok (.aload_n 0, 1) := by decide +kernel
theorem dX4_isOfKind_170 : decode cX4_isOfKind 170 = .ok (.iload_n 2, 1) := by decide +kernel
theorem dX4_isOfKind_171 : decode cX4_isOfKind 171 = .ok (.invokevirtual 23, 3) := by decide +kernel
theorem dX4_isOfKind_174 : decode cX4_isOfKind 174 = .ok (.ifCond .eq 15, 3) := by decide +kernel
theorem dX4_isOfKind_177 : decode cX4_isOfKind 177 = .ok (.aload_n 0, 1) := by decide +kernel
theorem dX4_isOfKind_178 : decode cX4_isOfKind 178 = .ok (.aload_n 3, 1) := by decide +kernel
theorem dX4_isOfKind_179 : decode cX4_isOfKind 179 = .ok (.invokevirtual 38, 3) := by decide +kernel
theorem dX4_isOfKind_182 : decode cX4_isOfKind 182 = .ok (.ifCond .eq 7, 3) := by decide +kernel
theorem dX4_isOfKind_185 : decode cX4_isOfKind 185 = .ok (.iconst 1, 1) := by decide +kernel
theorem dX4_isOfKind_186 : decode cX4_isOfKind 186 = .ok (.goto 4, 3) := by decide +kernel
theorem dX4_isOfKind_189 : decode cX4_isOfKind 189 = .ok (.iconst 0, 1) := by decide +kernel
theorem dX4_isOfKind_190 : decode cX4_isOfKind 190 = .ok (.ireturn, 1) := by decide +kernel
theorem dX4_become_0 : decode cX4_become 0 = .ok (.aload_n 1, 1) := by decide +kernel
theorem dX4_become_1 : decode cX4_become 1 = .ok (.getfield 9, 3) := by decide +kernel
theorem dX4_become_4 : decode cX4_become 4 = .ok (.iconst 0, 1) := by decide +kernel
theorem dX4_become_5 : decode cX4_become 5 = .ok (.aload_n 0, 1) := by decide +kernel
theorem dX4_become_6 : decode cX4_become 6 = .ok (.getfield 9, 3) := by decide +kernel
theorem dX4_become_9 : decode cX4_become 9 = .ok (.iconst 0, 1) := by decide +kernel
theorem dX4_become_10 : decode cX4_become 10 = .ok (.aload_n 0, 1) := by decide +kernel
theorem dX4_become_11 : decode cX4_become 11 = .ok (.getfield 9, 3) := by decide +kernel
theorem dX4_become_14 : decode cX4_become 14 = .ok (.arraylength, 1) := by decide +kernel
theorem dX4_become_15 : decode cX4_become 15 = .ok (.invokestatic 41, 3) := by decide +kernel
theorem dX4_become_18 : decode cX4_become 18 = .ok (.return_, 1) := by decide +kernel
theorem dX4_becomeEmpty_0 : decode cX4_becomeEmpty 0 = .ok (.aload_n 0, 1) := by decide +kernel
theorem dX4_becomeEmpty_1 : decode cX4_becomeEmpty 1 = .ok (.getfield 9, 3) := by decide +kernel
theorem dX4_becomeEmpty_4 : decode cX4_becomeEmpty 4 = .ok (.iconst 0, 1) := by decide +kernel
theorem dX4_becomeEmpty_5 : decode cX4_becomeEmpty 5 = .ok (.invokestatic 47, 3) := by decide +kernel
theorem dX4_becomeEmpty_8 : decode cX4_becomeEmpty 8 = .ok (.return_, 1) := by decide +kernel
theorem dX4_becomeFirst_0 : decode cX4_becomeFirst 0 = .ok (.aload_n 0, 1) := by decide +kernel
theorem dX4_becomeFirst_1 : decode cX4_becomeFirst 1 = .ok (.invokevirtual 53, 3) := by decide +kernel
theorem dX4_becomeFirst_4 : decode cX4_becomeFirst 4 = .ok (.aload_n 0, 1) := by decide +kernel
theorem dX4_becomeFirst_5 : decode cX4_becomeFirst 5 = .ok (.iload_n 1, 1) := by decide +kernel
theorem dX4_becomeFirst_6 : decode cX4_becomeFirst 6 = .ok (.iconst 1, 1) := by decide +kernel
theorem dX4_becomeFirst_7 : decode cX4_becomeFirst 7 = .ok (.invokevirtual 56, 3) := by decide +kernel
theorem dX4_becomeFirst_10 : decode cX4_becomeFirst 10 = .ok (.return_, 1) := by decide +kernel
theorem dX4_becomeTurned_0 : decode cX4_becomeTurned 0 = .ok (.aload_n 0, 1) := by decide +kernel
theorem dX4_becomeTurned_1 : decode cX4_becomeTurned 1 = .ok (.invokevirtual 53, 3) := by decide +kernel
theorem dX4_becomeTurned_4 : decode cX4_becomeTurned 4 = .ok (.iconst 0, 1) := by decide +kernel
theorem dX4_becomeTurned_5 : decode cX4_becomeTurned 5 = .ok (.istore_n 2, 1) := by decide +kernel
theorem dX4_becomeTurned_6 : decode cX4_becomeTurned 6 = .ok (.bipush 20, 2) := by decide +kernel
theorem dX4_becomeTurned_8 : decode cX4_becomeTurned 8 = .ok (.istore_n 3, 1) := by decide +kernel
theorem dX4_becomeTurned_9 : decode cX4_becomeTurned 9 = .ok (.iload_n 3, 1) := by decide +kernel
theorem dX4_becomeTurned_10 : decode cX4_becomeTurned 10 = .ok (.iconst 1, 1) := by decide +kernel
theorem dX4_becomeTurned_11 : decode cX4_becomeTurned 11 = .ok (.if_icmp .lt 24, 3) := by decide +kernel
theorem dX4_becomeTurned_14 : decode cX4_becomeTurned 14 = .ok (.iload_n 2, 1) := by decide +kernel
theorem dX4_becomeTurned_15 : decode cX4_becomeTurned 15 = .ok (.aload_n 1, 1) := by decide +kernel
theorem dX4_becomeTurned_16 : decode cX4_becomeTurned 16 = .ok (.getfield 9, 3) := by decide +kernel
theorem dX4_becomeTurned_19 : decode cX4_becomeTurned 19 = .ok (.iload_n 3, 1) := by decide +kernel
theorem dX4_becomeTurned_20 : decode cX4_becomeTurned 20 = .ok (.iaload, 1) := by decide +kernel
theorem dX4_becomeTurned_21 : decode cX4_becomeTurned 21 = .ok (.iadd, 1) := by decide +kernel
theorem dX4_becomeTurned_22 : decode cX4_becomeTurned 22 = .ok (.istore_n 2, 1) := by decide +kernel
theorem dX4_becomeTurned_23 : decode cX4_becomeTurned 23 = .ok (.aload_n 0, 1) := by decide +kernel
theorem dX4_becomeTurned_24 : decode cX4_becomeTurned 24 = .ok (.iload_n 2, 1) := by decide +kernel
theorem dX4_becomeTurned_25 : decode cX4_becomeTurned 25 = .ok (.iconst 1, 1) := by decide +kernel
theorem dX4_becomeTurned_26 : decode cX4_becomeTurned 26 = .ok (.invokevirtual 56, 3) := by decide +kernel
theorem dX4_becomeTurned_29 : decode cX4_becomeTurned 29 = .ok (.iinc 3 (-1), 3) := by decide +kernel
theorem dX4_becomeTurned_32 : decode cX4_becomeTurned 32 = .ok (.goto (-23), 3) := by decide +kernel
theorem dX4_becomeTurned_35 : decode cX4_becomeTurned 35 = .ok (.return_, 1) := by decide +kernel
theorem dX4_becomeUnlike_0 : decode cX4_becomeUnlike 0 = .ok (.aload_n 0, 1) := by decide +kernel
theorem dX4_becomeUnlike_1 : decode cX4_becomeUnlike 1 = .ok (.invokevirtual 53, 3) := by decide +kernel
theorem dX4_becomeUnlike_4 : decode cX4_becomeUnlike 4 = .ok (.iconst 1, 1) := by decide +kernel
theorem dX4_becomeUnlike_5 : decode cX4_becomeUnlike 5 = .ok (.istore_n 2, 1) := by decide +kernel
theorem dX4_becomeUnlike_6 : decode cX4_becomeUnlike 6 = .ok (.iload_n 2, 1) := by decide +kernel
