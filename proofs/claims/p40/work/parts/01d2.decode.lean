theorem dX7_isOut_23 : decode cX7_isOut 23 = .ok (.invokestatic 31, 3) := by decide +kernel
theorem dX7_isOut_26 : decode cX7_isOut 26 = .ok (.ifCond .eq 7, 3) := by decide +kernel
theorem dX7_isOut_29 : decode cX7_isOut 29 = .ok (.iconst 1, 1) := by decide +kernel
theorem dX7_isOut_30 : decode cX7_isOut 30 = .ok (.goto 4, 3) := by decide +kernel
theorem dX7_isOut_33 : decode cX7_isOut 33 = .ok (.iconst 0, 1) := by decide +kernel
theorem dX7_isOut_34 : decode cX7_isOut 34 = .ok (.ireturn, 1) := by decide +kernel
theorem dX7_bit_0 : decode cX7_bit 0 = .ok (.iload_n 0, 1) := by decide +kernel
theorem dX7_bit_1 : decode cX7_bit 1 = .ok (.ifCond .eq 7, 3) := by decide +kernel
theorem dX7_bit_4 : decode cX7_bit 4 = .ok (.iconst 1, 1) := by decide +kernel
theorem dX7_bit_5 : decode cX7_bit 5 = .ok (.goto 4, 3) := by decide +kernel
theorem dX7_bit_8 : decode cX7_bit 8 = .ok (.iconst 0, 1) := by decide +kernel
theorem dX7_bit_9 : decode cX7_bit 9 = .ok (.ireturn, 1) := by decide +kernel
theorem dX7_done_0 : decode cX7_done 0 = .ok (.aload_n 0, 1) := by decide +kernel
theorem dX7_done_1 : decode cX7_done 1 = .ok (.getfield 20, 3) := by decide +kernel
theorem dX7_done_4 : decode cX7_done 4 = .ok (.iconst 0, 1) := by decide +kernel
theorem dX7_done_5 : decode cX7_done 5 = .ok (.dup2, 1) := by decide +kernel
theorem dX7_done_6 : decode cX7_done 6 = .ok (.iaload, 1) := by decide +kernel
theorem dX7_done_7 : decode cX7_done 7 = .ok (.iconst 1, 1) := by decide +kernel
theorem dX7_done_8 : decode cX7_done 8 = .ok (.iadd, 1) := by decide +kernel
theorem dX7_done_9 : decode cX7_done 9 = .ok (.iastore, 1) := by decide +kernel
theorem dX7_done_10 : decode cX7_done 10 = .ok (.iload_n 1, 1) := by decide +kernel
theorem dX7_done_11 : decode cX7_done 11 = .ok (.ireturn, 1) := by decide +kernel
theorem dX7_refused_0 : decode cX7_refused 0 = .ok (.aload_n 0, 1) := by decide +kernel
theorem dX7_refused_1 : decode cX7_refused 1 = .ok (.getfield 20, 3) := by decide +kernel
theorem dX7_refused_4 : decode cX7_refused 4 = .ok (.iconst 4, 1) := by decide +kernel
theorem dX7_refused_5 : decode cX7_refused 5 = .ok (.dup2, 1) := by decide +kernel
theorem dX7_refused_6 : decode cX7_refused 6 = .ok (.iaload, 1) := by decide +kernel
theorem dX7_refused_7 : decode cX7_refused 7 = .ok (.iconst 1, 1) := by decide +kernel
theorem dX7_refused_8 : decode cX7_refused 8 = .ok (.iadd, 1) := by decide +kernel
theorem dX7_refused_9 : decode cX7_refused 9 = .ok (.iastore, 1) := by decide +kernel
theorem dX7_refused_10 : decode cX7_refused 10 = .ok (.bipush (-9), 2) := by decide +kernel
theorem dX7_refused_12 : decode cX7_refused 12 = .ok (.ireturn, 1) := by decide +kernel
theorem dX7_code_0 : decode cX7_code 0 = .ok (.sipush 1024, 3) := by decide +kernel
theorem dX7_code_3 : decode cX7_code 3 = .ok (.iload_n 0, 1) := by decide +kernel
theorem dX7_code_4 : decode cX7_code 4 = .ok (.imul, 1) := by decide +kernel
theorem dX7_code_5 : decode cX7_code 5 = .ok (.bipush 32, 2) := by decide +kernel
theorem dX7_code_7 : decode cX7_code 7 = .ok (.iload_n 1, 1) := by decide +kernel
theorem dX7_code_8 : decode cX7_code 8 = .ok (.imul, 1) := by decide +kernel
theorem dX7_code_9 : decode cX7_code 9 = .ok (.iadd, 1) := by decide +kernel
theorem dX7_code_10 : decode cX7_code 10 = .ok (.iload_n 2, 1) := by decide +kernel
theorem dX7_code_11 : decode cX7_code 11 = .ok (.iadd, 1) := by decide +kernel
theorem dX7_code_12 : decode cX7_code 12 = .ok (.ireturn, 1) := by decide +kernel
theorem dX7_kindOf_0 : decode cX7_kindOf 0 = .ok (.iload_n 0, 1) := by decide +kernel
theorem dX7_kindOf_1 : decode cX7_kindOf 1 = .ok (.sipush 1024, 3) := by decide +kernel
theorem dX7_kindOf_4 : decode cX7_kindOf 4 = .ok (.idiv, 1) := by decide +kernel
theorem dX7_kindOf_5 : decode cX7_kindOf 5 = .ok (.ireturn, 1) := by decide +kernel
theorem dX7_numberOf_0 : decode cX7_numberOf 0 = .ok (.iload_n 0, 1) := by decide +kernel
theorem dX7_numberOf_1 : decode cX7_numberOf 1 = .ok (.bipush 32, 2) := by decide +kernel
theorem dX7_numberOf_3 : decode cX7_numberOf 3 = .ok (.idiv, 1) := by decide +kernel
theorem dX7_numberOf_4 : decode cX7_numberOf 4 = .ok (.bipush 32, 2) := by decide +kernel
theorem dX7_numberOf_6 : decode cX7_numberOf 6 = .ok (.irem, 1) := by decide +kernel
theorem dX7_numberOf_7 : decode cX7_numberOf 7 = .ok (.ireturn, 1) := by decide +kernel
theorem dX7_measureOf_0 : decode cX7_measureOf 0 = .ok (.iload_n 0, 1) := by decide +kernel
theorem dX7_measureOf_1 : decode cX7_measureOf 1 = .ok (.bipush 32, 2) := by decide +kernel
theorem dX7_measureOf_3 : decode cX7_measureOf 3 = .ok (.irem, 1) := by decide +kernel
theorem dX7_measureOf_4 : decode cX7_measureOf 4 = .ok (.ireturn, 1) := by decide +kernel
theorem dX7_rests_0 : decode cX7_rests 0 = .ok (.iload_n 0, 1) := by decide +kernel
theorem dX7_rests_1 : decode cX7_rests 1 = .ok (.ifCond .le 7, 3) := by decide +kernel
theorem dX7_rests_4 : decode cX7_rests 4 = .ok (.iload_n 1, 1) := by decide +kernel
theorem dX7_rests_5 : decode cX7_rests 5 = .ok (.ifCond .ne 7, 3) := by decide +kernel
theorem dX7_rests_8 : decode cX7_rests 8 = .ok (.iconst 1, 1) := by decide +kernel
theorem dX7_rests_9 : decode cX7_rests 9 = .ok (.goto 4, 3) := by decide +kernel
theorem dX7_rests_12 : decode cX7_rests 12 = .ok (.iconst 0, 1) := by decide +kernel
theorem dX7_rests_13 : decode cX7_rests 13 = .ok (.ireturn, 1) := by decide +kernel
theorem dX7_hasLeg_0 : decode cX7_hasLeg 0 = .ok (.iload_n 2, 1) := by decide +kernel
theorem dX7_hasLeg_1 : decode cX7_hasLeg 1 = .ok (.ifCond .eq 20, 3) := by decide +kernel
theorem dX7_hasLeg_4 : decode cX7_hasLeg 4 = .ok (.iload_n 1, 1) := by decide +kernel
theorem dX7_hasLeg_5 : decode cX7_hasLeg 5 = .ok (.iconst 2, 1) := by decide +kernel
theorem dX7_hasLeg_6 : decode cX7_hasLeg 6 = .ok (.irem, 1) := by decide +kernel
theorem dX7_hasLeg_7 : decode cX7_hasLeg 7 = .ok (.iconst 1, 1) := by decide +kernel
theorem dX7_hasLeg_8 : decode cX7_hasLeg 8 = .ok (.if_icmp .eq 13, 3) := by decide +kernel
theorem dX7_hasLeg_11 : decode cX7_hasLeg 11 = .ok (.iload_n 0, 1) := by decide +kernel
theorem dX7_hasLeg_12 : decode cX7_hasLeg 12 = .ok (.iconst 3, 1) := by decide +kernel
theorem dX7_hasLeg_13 : decode cX7_hasLeg 13 = .ok (.if_icmp .eq 12, 3) := by decide +kernel
theorem dX7_hasLeg_16 : decode cX7_hasLeg 16 = .ok (.iload_n 0, 1) := by decide +kernel
theorem dX7_hasLeg_17 : decode cX7_hasLeg 17 = .ok (.iconst 4, 1) := by decide +kernel
theorem dX7_hasLeg_18 : decode cX7_hasLeg 18 = .ok (.if_icmp .eq 7, 3) := by decide +kernel
theorem dX7_hasLeg_21 : decode cX7_hasLeg 21 = .ok (.iconst 1, 1) := by decide +kernel
theorem dX7_hasLeg_22 : decode cX7_hasLeg 22 = .ok (.goto 4, 3) := by decide +kernel
theorem dX7_hasLeg_25 : decode cX7_hasLeg 25 = .ok (.iconst 0, 1) := by decide +kernel
theorem dX7_hasLeg_26 : decode cX7_hasLeg 26 = .ok (.ireturn, 1) := by decide +kernel
theorem dX7_legNumber_0 : decode cX7_legNumber 0 = .ok (.iload_n 3, 1) := by decide +kernel
theorem dX7_legNumber_1 : decode cX7_legNumber 1 = .ok (.iconst 1, 1) := by decide +kernel
theorem dX7_legNumber_2 : decode cX7_legNumber 2 = .ok (.if_icmp .eq 8, 3) := by decide +kernel
theorem dX7_legNumber_5 : decode cX7_legNumber 5 = .ok (.iload_n 0, 1) := by decide +kernel
theorem dX7_legNumber_6 : decode cX7_legNumber 6 = .ok (.iconst 5, 1) := by decide +kernel
theorem dX7_legNumber_7 : decode cX7_legNumber 7 = .ok (.if_icmp .ne 7, 3) := by decide +kernel
theorem dX7_legNumber_10 : decode cX7_legNumber 10 = .ok (.iload_n 1, 1) := by decide +kernel
theorem dX7_legNumber_11 : decode cX7_legNumber 11 = .ok (.iload_n 2, 1) := by decide +kernel
theorem dX7_legNumber_12 : decode cX7_legNumber 12 = .ok (.isub, 1) := by decide +kernel
theorem dX7_legNumber_13 : decode cX7_legNumber 13 = .ok (.ireturn, 1) := by decide +kernel
theorem dX7_legNumber_14 : decode cX7_legNumber 14 = .ok (.iload_n 0, 1) := by decide +kernel
theorem dX7_legNumber_15 : decode cX7_legNumber 15 = .ok (.iconst 1, 1) := by decide +kernel
theorem dX7_legNumber_16 : decode cX7_legNumber 16 = .ok (.if_icmp .ne 9, 3) := by decide +kernel
theorem dX7_legNumber_19 : decode cX7_legNumber 19 = .ok (.iload_n 1, 1) := by decide +kernel
theorem dX7_legNumber_20 : decode cX7_legNumber 20 = .ok (.iconst 1, 1) := by decide +kernel
theorem dX7_legNumber_21 : decode cX7_legNumber 21 = .ok (.isub, 1) := by decide +kernel
theorem dX7_legNumber_22 : decode cX7_legNumber 22 = .ok (.goto 4, 3) := by decide +kernel
theorem dX7_legNumber_25 : decode cX7_legNumber 25 = .ok (.iload_n 1, 1) := by decide +kernel
theorem dX7_legNumber_26 : decode cX7_legNumber 26 = .ok (.ireturn, 1) := by decide +kernel
theorem dX7_legMeasure_0 : decode cX7_legMeasure 0 = .ok (.iload_n 2, 1) := by decide +kernel
theorem dX7_legMeasure_1 : decode cX7_legMeasure 1 = .ok (.ifCond .ne 16, 3) := by decide +kernel
theorem dX7_legMeasure_4 : decode cX7_legMeasure 4 = .ok (.iload_n 0, 1) := by decide +kernel
theorem dX7_legMeasure_5 : decode cX7_legMeasure 5 = .ok (.iconst 5, 1) := by decide +kernel
theorem dX7_legMeasure_6 : decode cX7_legMeasure 6 = .ok (.if_icmp .ne 7, 3) := by decide +kernel
theorem dX7_legMeasure_9 : decode cX7_legMeasure 9 = .ok (.iconst 1, 1) := by decide +kernel
theorem dX7_legMeasure_10 : decode cX7_legMeasure 10 = .ok (.goto 26, 3) := by decide +kernel
theorem dX7_legMeasure_13 : decode cX7_legMeasure 13 = .ok (.iconst 0, 1) := by decide +kernel
theorem dX7_legMeasure_14 : decode cX7_legMeasure 14 = .ok (.goto 22, 3) := by decide +kernel
theorem dX7_legMeasure_17 : decode cX7_legMeasure 17 = .ok (.iload_n 0, 1) := by decide +kernel
theorem dX7_legMeasure_18 : decode cX7_legMeasure 18 = .ok (.ifCond .eq 13, 3) := by decide +kernel
theorem dX7_legMeasure_21 : decode cX7_legMeasure 21 = .ok (.iload_n 0, 1) := by decide +kernel
theorem dX7_legMeasure_22 : decode cX7_legMeasure 22 = .ok (.iconst 1, 1) := by decide +kernel
theorem dX7_legMeasure_23 : decode cX7_legMeasure 23 = .ok (.if_icmp .eq 8, 3) := by decide +kernel
theorem dX7_legMeasure_26 : decode cX7_legMeasure 26 = .ok (.iload_n 0, 1) := by decide +kernel
theorem dX7_legMeasure_27 : decode cX7_legMeasure 27 = .ok (.iconst 3, 1) := by decide +kernel
theorem dX7_legMeasure_28 : decode cX7_legMeasure 28 = .ok (.if_icmp .ne 7, 3) := by decide +kernel
theorem dX7_legMeasure_31 : decode cX7_legMeasure 31 = .ok (.iconst 1, 1) := by decide +kernel
theorem dX7_legMeasure_32 : decode cX7_legMeasure 32 = .ok (.goto 4, 3) := by decide +kernel
theorem dX7_legMeasure_35 : decode cX7_legMeasure 35 = .ok (.iconst 0, 1) := by decide +kernel
theorem dX7_legMeasure_36 : decode cX7_legMeasure 36 = .ok (.istore_n 3, 1) := by decide +kernel
theorem dX7_legMeasure_37 : decode cX7_legMeasure 37 = .ok (.iload_n 3, 1) := by decide +kernel
theorem dX7_legMeasure_38 : decode cX7_legMeasure 38 = .ok (.ifCond .eq 7, 3) := by decide +kernel
theorem dX7_legMeasure_41 : decode cX7_legMeasure 41 = .ok (.iload_n 1, 1) := by decide +kernel
theorem dX7_legMeasure_42 : decode cX7_legMeasure 42 = .ok (.goto 6, 3) := by decide +kernel
theorem dX7_legMeasure_45 : decode cX7_legMeasure 45 = .ok (.iload_n 1, 1) := by decide +kernel
theorem dX7_legMeasure_46 : decode cX7_legMeasure 46 = .ok (.iconst 1, 1) := by decide +kernel
theorem dX7_legMeasure_47 : decode cX7_legMeasure 47 = .ok (.isub, 1) := by decide +kernel
theorem dX7_legMeasure_48 : decode cX7_legMeasure 48 = .ok (.ireturn, 1) := by decide +kernel
theorem dX7_worth_0 : decode cX7_worth 0 = .ok (.iload_n 3, 1) := by decide +kernel
theorem dX7_worth_1 : decode cX7_worth 1 = .ok (.iload 4, 2) := by decide +kernel
theorem dX7_worth_3 : decode cX7_worth 3 = .ok (.invokestatic 35, 3) := by decide +kernel
theorem dX7_worth_6 : decode cX7_worth 6 = .ok (.ifCond .ne 18, 3) := by decide +kernel
theorem dX7_worth_9 : decode cX7_worth 9 = .ok (.aload_n 0, 1) := by decide +kernel
theorem dX7_worth_10 : decode cX7_worth 10 = .ok (.getfield 11, 3) := by decide +kernel
theorem dX7_worth_13 : decode cX7_worth 13 = .ok (.iload_n 1, 1) := by decide +kernel
theorem dX7_worth_14 : decode cX7_worth 14 = .ok (.aaload, 1) := by decide +kernel
theorem dX7_worth_15 : decode cX7_worth 15 = .ok (.iload_n 2, 1) := by decide +kernel
theorem dX7_worth_16 : decode cX7_worth 16 = .ok (.iload_n 3, 1) := by decide +kernel
theorem dX7_worth_17 : decode cX7_worth 17 = .ok (.iload 4, 2) := by decide +kernel
theorem dX7_worth_19 : decode cX7_worth 19 = .ok (.invokestatic 39, 3) := by decide +kernel
theorem dX7_worth_22 : decode cX7_worth 22 = .ok (.iaload, 1) := by decide +kernel
theorem dX7_worth_23 : decode cX7_worth 23 = .ok (.ireturn, 1) := by decide +kernel
theorem dX7_worth_24 : decode cX7_worth 24 = .ok (.iload_n 3, 1) := by decide +kernel
theorem dX7_worth_25 : decode cX7_worth 25 = .ok (.ifCond .ne 22, 3) := by decide +kernel
theorem dX7_worth_28 : decode cX7_worth 28 = .ok (.iload 4, 2) := by decide +kernel
theorem dX7_worth_30 : decode cX7_worth 30 = .ok (.ifCond .eq 13, 3) := by decide +kernel
theorem dX7_worth_33 : decode cX7_worth 33 = .ok (.iload_n 2, 1) := by decide +kernel
theorem dX7_worth_34 : decode cX7_worth 34 = .ok (.iconst 1, 1) := by decide +kernel
theorem dX7_worth_35 : decode cX7_worth 35 = .ok (.if_icmp .eq 12, 3) := by decide +kernel
theorem dX7_worth_38 : decode cX7_worth 38 = .ok (.iload_n 2, 1) := by decide +kernel
theorem dX7_worth_39 : decode cX7_worth 39 = .ok (.iconst 5, 1) := by decide +kernel
theorem dX7_worth_40 : decode cX7_worth 40 = .ok (.if_icmp .eq 7, 3) := by decide +kernel
theorem dX7_worth_43 : decode cX7_worth 43 = .ok (.iconst 1, 1) := by decide +kernel
theorem dX7_worth_44 : decode cX7_worth 44 = .ok (.goto 4, 3) := by decide +kernel
theorem dX7_worth_47 : decode cX7_worth 47 = .ok (.iconst 0, 1) := by decide +kernel
theorem dX7_worth_48 : decode cX7_worth 48 = .ok (.invokestatic 43, 3) := by decide +kernel
theorem dX7_worth_51 : decode cX7_worth 51 = .ok (.ireturn, 1) := by decide +kernel
theorem dX7_known_0 : decode cX7_known 0 = .ok (.iload_n 3, 1) := by decide +kernel
theorem dX7_known_1 : decode cX7_known 1 = .ok (.iload 4, 2) := by decide +kernel
theorem dX7_known_3 : decode cX7_known 3 = .ok (.invokestatic 35, 3) := by decide +kernel
theorem dX7_known_6 : decode cX7_known 6 = .ok (.ifCond .eq 13, 3) := by decide +kernel
theorem dX7_known_9 : decode cX7_known 9 = .ok (.aload_n 0, 1) := by decide +kernel
theorem dX7_known_10 : decode cX7_known 10 = .ok (.iload_n 1, 1) := by decide +kernel
theorem dX7_known_11 : decode cX7_known 11 = .ok (.iload_n 2, 1) := by decide +kernel
theorem dX7_known_12 : decode cX7_known 12 = .ok (.iload_n 3, 1) := by decide +kernel
theorem dX7_known_13 : decode cX7_known 13 = .ok (.iload 4, 2) := by decide +kernel
theorem dX7_known_15 : decode cX7_known 15 = .ok (.invokevirtual 47, 3) := by decide +kernel
theorem dX7_known_18 : decode cX7_known 18 = .ok (.ireturn, 1) := by decide +kernel
theorem dX7_known_19 : decode cX7_known 19 = .ok (.iconst 0, 1) := by decide +kernel
theorem dX7_known_20 : decode cX7_known 20 = .ok (.istore 5, 2) := by decide +kernel
theorem dX7_known_22 : decode cX7_known 22 = .ok (.iload 5, 2) := by decide +kernel
theorem dX7_known_24 : decode cX7_known 24 = .ok (.aload_n 0, 1) := by decide +kernel
theorem dX7_known_25 : decode cX7_known 25 = .ok (.getfield 24, 3) := by decide +kernel
theorem dX7_known_28 : decode cX7_known 28 = .ok (.arraylength, 1) := by decide +kernel
theorem dX7_known_29 : decode cX7_known 29 = .ok (.if_icmp .ge 17, 3) := by decide +kernel
theorem dX7_known_32 : decode cX7_known 32 = .ok (.aload_n 0, 1) := by decide +kernel
theorem dX7_known_33 : decode cX7_known 33 = .ok (.getfield 24, 3) := by decide +kernel
theorem dX7_known_36 : decode cX7_known 36 = .ok (.iload 5, 2) := by decide +kernel
theorem dX7_known_38 : decode cX7_known 38 = .ok (.iconst 0, 1) := by decide +kernel
theorem dX7_known_39 : decode cX7_known 39 = .ok (.iastore, 1) := by decide +kernel
theorem dX7_known_40 : decode cX7_known 40 = .ok (.iinc 5 1, 3) := by decide +kernel
theorem dX7_known_43 : decode cX7_known 43 = .ok (.goto (-21), 3) := by decide +kernel
theorem dX7_known_46 : decode cX7_known 46 = .ok (.aload_n 0, 1) := by decide +kernel
theorem dX7_known_47 : decode cX7_known 47 = .ok (.getfield 24, 3) := by decide +kernel
theorem dX7_known_50 : decode cX7_known 50 = .ok (.bipush 21, 2) := by decide +kernel
theorem dX7_known_52 : decode cX7_known 52 = .ok (.iload 4, 2) := by decide +kernel
theorem dX7_known_54 : decode cX7_known 54 = .ok (.imul, 1) := by decide +kernel
theorem dX7_known_55 : decode cX7_known 55 = .ok (.iload_n 3, 1) := by decide +kernel
theorem dX7_known_56 : decode cX7_known 56 = .ok (.iadd, 1) := by decide +kernel
theorem dX7_known_57 : decode cX7_known 57 = .ok (.iconst 1, 1) := by decide +kernel
theorem dX7_known_58 : decode cX7_known 58 = .ok (.iastore, 1) := by decide +kernel
theorem dX7_known_59 : decode cX7_known 59 = .ok (.bipush 21, 2) := by decide +kernel
theorem dX7_known_61 : decode cX7_known 61 = .ok (.iload 4, 2) := by decide +kernel
theorem dX7_known_63 : decode cX7_known 63 = .ok (.imul, 1) := by decide +kernel
theorem dX7_known_64 : decode cX7_known 64 = .ok (.iload_n 3, 1) := by decide +kernel
theorem dX7_known_65 : decode cX7_known 65 = .ok (.iadd, 1) := by decide +kernel
theorem dX7_known_66 : decode cX7_known 66 = .ok (.istore 5, 2) := by decide +kernel
theorem dX7_known_68 : decode cX7_known 68 = .ok (.iload 5, 2) := by decide +kernel
theorem dX7_known_70 : decode cX7_known 70 = .ok (.ifCond .le 204, 3) := by decide +kernel
theorem dX7_known_73 : decode cX7_known 73 = .ok (.iload 5, 2) := by decide +kernel
theorem dX7_known_75 : decode cX7_known 75 = .ok (.bipush 21, 2) := by decide +kernel
theorem dX7_known_77 : decode cX7_known 77 = .ok (.irem, 1) := by decide +kernel
theorem dX7_known_78 : decode cX7_known 78 = .ok (.istore 6, 2) := by decide +kernel
theorem dX7_known_80 : decode cX7_known 80 = .ok (.iload 5, 2) := by decide +kernel
theorem dX7_known_82 : decode cX7_known 82 = .ok (.bipush 21, 2) := by decide +kernel
theorem dX7_known_84 : decode cX7_known 84 = .ok (.idiv, 1) := by decide +kernel
theorem dX7_known_85 : decode cX7_known 85 = .ok (.istore 7, 2) := by decide +kernel
theorem dX7_known_87 : decode cX7_known 87 = .ok (.aload_n 0, 1) := by decide +kernel
theorem dX7_known_88 : decode cX7_known 88 = .ok (.getfield 24, 3) := by decide +kernel
theorem dX7_known_91 : decode cX7_known 91 = .ok (.iload 5, 2) := by decide +kernel
theorem dX7_known_93 : decode cX7_known 93 = .ok (.iaload, 1) := by decide +kernel
theorem dX7_known_94 : decode cX7_known 94 = .ok (.ifCond .ne 6, 3) := by decide +kernel
theorem dX7_known_97 : decode cX7_known 97 = .ok (.goto 171, 3) := by decide +kernel
theorem dX7_known_100 : decode cX7_known 100 = .ok (.aload_n 0, 1) := by decide +kernel
theorem dX7_known_101 : decode cX7_known 101 = .ok (.iload_n 1, 1) := by decide +kernel
theorem dX7_known_102 : decode cX7_known 102 = .ok (.iload_n 2, 1) := by decide +kernel
theorem dX7_known_103 : decode cX7_known 103 = .ok (.iload 6, 2) := by decide +kernel
theorem dX7_known_105 : decode cX7_known 105 = .ok (.iload 7, 2) := by decide +kernel
theorem dX7_known_107 : decode cX7_known 107 = .ok (.invokevirtual 47, 3) := by decide +kernel
theorem dX7_known_110 : decode cX7_known 110 = .ok (.ifCond .lt 7, 3) := by decide +kernel
theorem dX7_known_113 : decode cX7_known 113 = .ok (.iconst 1, 1) := by decide +kernel
theorem dX7_known_114 : decode cX7_known 114 = .ok (.goto 4, 3) := by decide +kernel
theorem dX7_known_117 : decode cX7_known 117 = .ok (.iconst 0, 1) := by decide +kernel
theorem dX7_known_118 : decode cX7_known 118 = .ok (.istore 8, 2) := by decide +kernel
theorem dX7_known_120 : decode cX7_known 120 = .ok (.aload_n 0, 1) := by decide +kernel
theorem dX7_known_121 : decode cX7_known 121 = .ok (.getfield 20, 3) := by decide +kernel
theorem dX7_known_124 : decode cX7_known 124 = .ok (.iconst 1, 1) := by decide +kernel
theorem dX7_known_125 : decode cX7_known 125 = .ok (.dup2, 1) := by decide +kernel
theorem dX7_known_126 : decode cX7_known 126 = .ok (.iaload, 1) := by decide +kernel
theorem dX7_known_127 : decode cX7_known 127 = .ok (.aload_n 0, 1) := by decide +kernel
theorem dX7_known_128 : decode cX7_known 128 = .ok (.getfield 24, 3) := by decide +kernel
theorem dX7_known_131 : decode cX7_known 131 = .ok (.iload 5, 2) := by decide +kernel
theorem dX7_known_133 : decode cX7_known 133 = .ok (.iaload, 1) := by decide +kernel
theorem dX7_known_134 : decode cX7_known 134 = .ok (.iadd, 1) := by decide +kernel
theorem dX7_known_135 : decode cX7_known 135 = .ok (.iastore, 1) := by decide +kernel
theorem dX7_known_136 : decode cX7_known 136 = .ok (.aload_n 0, 1) := by decide +kernel
theorem dX7_known_137 : decode cX7_known 137 = .ok (.getfield 20, 3) := by decide +kernel
theorem dX7_known_140 : decode cX7_known 140 = .ok (.iconst 2, 1) := by decide +kernel
theorem dX7_known_141 : decode cX7_known 141 = .ok (.dup2, 1) := by decide +kernel
theorem dX7_known_142 : decode cX7_known 142 = .ok (.iaload, 1) := by decide +kernel
theorem dX7_known_143 : decode cX7_known 143 = .ok (.iload 8, 2) := by decide +kernel
theorem dX7_known_145 : decode cX7_known 145 = .ok (.ifCond .ne 7, 3) := by decide +kernel
theorem dX7_known_148 : decode cX7_known 148 = .ok (.iconst 1, 1) := by decide +kernel
theorem dX7_known_149 : decode cX7_known 149 = .ok (.goto 4, 3) := by decide +kernel
theorem dX7_known_152 : decode cX7_known 152 = .ok (.iconst 0, 1) := by decide +kernel
theorem dX7_known_153 : decode cX7_known 153 = .ok (.invokestatic 43, 3) := by decide +kernel
theorem dX7_known_156 : decode cX7_known 156 = .ok (.iadd, 1) := by decide +kernel
theorem dX7_known_157 : decode cX7_known 157 = .ok (.iastore, 1) := by decide +kernel
theorem dX7_known_158 : decode cX7_known 158 = .ok (.aload_n 0, 1) := by decide +kernel
theorem dX7_known_159 : decode cX7_known 159 = .ok (.getfield 20, 3) := by decide +kernel
theorem dX7_known_162 : decode cX7_known 162 = .ok (.iconst 3, 1) := by decide +kernel
theorem dX7_known_163 : decode cX7_known 163 = .ok (.dup2, 1) := by decide +kernel
theorem dX7_known_164 : decode cX7_known 164 = .ok (.iaload, 1) := by decide +kernel
theorem dX7_known_165 : decode cX7_known 165 = .ok (.aload_n 0, 1) := by decide +kernel
theorem dX7_known_166 : decode cX7_known 166 = .ok (.getfield 24, 3) := by decide +kernel
theorem dX7_known_169 : decode cX7_known 169 = .ok (.iload 5, 2) := by decide +kernel
theorem dX7_known_171 : decode cX7_known 171 = .ok (.iaload, 1) := by decide +kernel
theorem dX7_known_172 : decode cX7_known 172 = .ok (.iload 8, 2) := by decide +kernel
theorem dX7_known_174 : decode cX7_known 174 = .ok (.ifCond .ne 7, 3) := by decide +kernel
theorem dX7_known_177 : decode cX7_known 177 = .ok (.iconst 1, 1) := by decide +kernel
theorem dX7_known_178 : decode cX7_known 178 = .ok (.goto 4, 3) := by decide +kernel
theorem dX7_known_181 : decode cX7_known 181 = .ok (.iconst 0, 1) := by decide +kernel
theorem dX7_known_182 : decode cX7_known 182 = .ok (.invokestatic 43, 3) := by decide +kernel
theorem dX7_known_185 : decode cX7_known 185 = .ok (.isub, 1) := by decide +kernel
theorem dX7_known_186 : decode cX7_known 186 = .ok (.iadd, 1) := by decide +kernel
theorem dX7_known_187 : decode cX7_known 187 = .ok (.iastore, 1) := by decide +kernel
theorem dX7_known_188 : decode cX7_known 188 = .ok (.iconst 0, 1) := by decide +kernel
theorem dX7_known_189 : decode cX7_known 189 = .ok (.istore 9, 2) := by decide +kernel
theorem dX7_known_191 : decode cX7_known 191 = .ok (.iload 9, 2) := by decide +kernel
theorem dX7_known_193 : decode cX7_known 193 = .ok (.iconst 2, 1) := by decide +kernel
theorem dX7_known_194 : decode cX7_known 194 = .ok (.if_icmp .ge 74, 3) := by decide +kernel
theorem dX7_known_197 : decode cX7_known 197 = .ok (.iload 8, 2) := by decide +kernel
theorem dX7_known_199 : decode cX7_known 199 = .ok (.ifCond .ne 69, 3) := by decide +kernel
theorem dX7_known_202 : decode cX7_known 202 = .ok (.iload_n 2, 1) := by decide +kernel
theorem dX7_known_203 : decode cX7_known 203 = .ok (.iload 6, 2) := by decide +kernel
theorem dX7_known_205 : decode cX7_known 205 = .ok (.iload 7, 2) := by decide +kernel
theorem dX7_known_207 : decode cX7_known 207 = .ok (.iload 9, 2) := by decide +kernel
theorem dX7_known_209 : decode cX7_known 209 = .ok (.invokestatic 51, 3) := by decide +kernel
theorem dX7_known_212 : decode cX7_known 212 = .ok (.istore 10, 2) := by decide +kernel
theorem dX7_known_214 : decode cX7_known 214 = .ok (.iload_n 2, 1) := by decide +kernel
theorem dX7_known_215 : decode cX7_known 215 = .ok (.iload 7, 2) := by decide +kernel
theorem dX7_known_217 : decode cX7_known 217 = .ok (.iload 9, 2) := by decide +kernel
theorem dX7_known_219 : decode cX7_known 219 = .ok (.invokestatic 54, 3) := by decide +kernel
theorem dX7_known_222 : decode cX7_known 222 = .ok (.istore 11, 2) := by decide +kernel
theorem dX7_known_224 : decode cX7_known 224 = .ok (.iload_n 2, 1) := by decide +kernel
theorem dX7_known_225 : decode cX7_known 225 = .ok (.iload 7, 2) := by decide +kernel
theorem dX7_known_227 : decode cX7_known 227 = .ok (.iload 9, 2) := by decide +kernel
theorem dX7_known_229 : decode cX7_known 229 = .ok (.invokestatic 57, 3) := by decide +kernel
theorem dX7_known_232 : decode cX7_known 232 = .ok (.ifCond .eq 30, 3) := by decide +kernel
theorem dX7_known_235 : decode cX7_known 235 = .ok (.iload 10, 2) := by decide +kernel
theorem dX7_known_237 : decode cX7_known 237 = .ok (.iload 11, 2) := by decide +kernel
theorem dX7_known_239 : decode cX7_known 239 = .ok (.invokestatic 35, 3) := by decide +kernel
theorem dX7_known_242 : decode cX7_known 242 = .ok (.ifCond .ne 20, 3) := by decide +kernel
theorem dX7_known_245 : decode cX7_known 245 = .ok (.aload_n 0, 1) := by decide +kernel
theorem dX7_known_246 : decode cX7_known 246 = .ok (.getfield 24, 3) := by decide +kernel
theorem dX7_known_249 : decode cX7_known 249 = .ok (.bipush 21, 2) := by decide +kernel
theorem dX7_known_251 : decode cX7_known 251 = .ok (.iload 11, 2) := by decide +kernel
theorem dX7_known_253 : decode cX7_known 253 = .ok (.imul, 1) := by decide +kernel
theorem dX7_known_254 : decode cX7_known 254 = .ok (.iload 10, 2) := by decide +kernel
theorem dX7_known_256 : decode cX7_known 256 = .ok (.iadd, 1) := by decide +kernel
theorem dX7_known_257 : decode cX7_known 257 = .ok (.dup2, 1) := by decide +kernel
theorem dX7_known_258 : decode cX7_known 258 = .ok (.iaload, 1) := by decide +kernel
theorem dX7_known_259 : decode cX7_known 259 = .ok (.iconst 1, 1) := by decide +kernel
theorem dX7_known_260 : decode cX7_known 260 = .ok (.iadd, 1) := by decide +kernel
theorem dX7_known_261 : decode cX7_known 261 = .ok (.iastore, 1) := by decide +kernel
theorem dX7_known_262 : decode cX7_known 262 = .ok (.iinc 9 1, 3) := by decide +kernel
theorem dX7_known_265 : decode cX7_known 265 = .ok (.goto (-74), 3) := by decide +kernel
theorem dX7_known_268 : decode cX7_known 268 = .ok (.iinc 5 (-1), 3) := by decide +kernel
theorem dX7_known_271 : decode cX7_known 271 = .ok (.goto (-203), 3) := by decide +kernel
theorem dX7_known_274 : decode cX7_known 274 = .ok (.iconst 0, 1) := by decide +kernel
theorem dX7_known_275 : decode cX7_known 275 = .ok (.istore 5, 2) := by decide +kernel
theorem dX7_known_277 : decode cX7_known 277 = .ok (.iload 5, 2) := by decide +kernel
theorem dX7_known_279 : decode cX7_known 279 = .ok (.bipush 21, 2) := by decide +kernel
theorem dX7_known_281 : decode cX7_known 281 = .ok (.iload 4, 2) := by decide +kernel
theorem dX7_known_283 : decode cX7_known 283 = .ok (.imul, 1) := by decide +kernel
theorem dX7_known_284 : decode cX7_known 284 = .ok (.iload_n 3, 1) := by decide +kernel
theorem dX7_known_285 : decode cX7_known 285 = .ok (.iadd, 1) := by decide +kernel
theorem dX7_known_286 : decode cX7_known 286 = .ok (.if_icmp .gt 35, 3) := by decide +kernel
theorem dX7_known_289 : decode cX7_known 289 = .ok (.aload_n 0, 1) := by decide +kernel
theorem dX7_known_290 : decode cX7_known 290 = .ok (.getfield 24, 3) := by decide +kernel
theorem dX7_known_293 : decode cX7_known 293 = .ok (.iload 5, 2) := by decide +kernel
theorem dX7_known_295 : decode cX7_known 295 = .ok (.iaload, 1) := by decide +kernel
theorem dX7_known_296 : decode cX7_known 296 = .ok (.ifCond .le 19, 3) := by decide +kernel
theorem dX7_known_299 : decode cX7_known 299 = .ok (.aload_n 0, 1) := by decide +kernel
theorem dX7_known_300 : decode cX7_known 300 = .ok (.iload_n 1, 1) := by decide +kernel
theorem dX7_known_301 : decode cX7_known 301 = .ok (.iload_n 2, 1) := by decide +kernel
theorem dX7_known_302 : decode cX7_known 302 = .ok (.iload 5, 2) := by decide +kernel
theorem dX7_known_304 : decode cX7_known 304 = .ok (.bipush 21, 2) := by decide +kernel
theorem dX7_known_306 : decode cX7_known 306 = .ok (.irem, 1) := by decide +kernel
theorem dX7_known_307 : decode cX7_known 307 = .ok (.iload 5, 2) := by decide +kernel
theorem dX7_known_309 : decode cX7_known 309 = .ok (.bipush 21, 2) := by decide +kernel
theorem dX7_known_311 : decode cX7_known 311 = .ok (.idiv, 1) := by decide +kernel
theorem dX7_known_312 : decode cX7_known 312 = .ok (.invokevirtual 60, 3) := by decide +kernel
theorem dX7_known_315 : decode cX7_known 315 = .ok (.iinc 5 1, 3) := by decide +kernel
theorem dX7_known_318 : decode cX7_known 318 = .ok (.goto (-41), 3) := by decide +kernel
theorem dX7_known_321 : decode cX7_known 321 = .ok (.aload_n 0, 1) := by decide +kernel
theorem dX7_known_322 : decode cX7_known 322 = .ok (.iload_n 1, 1) := by decide +kernel
theorem dX7_known_323 : decode cX7_known 323 = .ok (.iload_n 2, 1) := by decide +kernel
theorem dX7_known_324 : decode cX7_known 324 = .ok (.iload_n 3, 1) := by decide +kernel
theorem dX7_known_325 : decode cX7_known 325 = .ok (.iload 4, 2) := by decide +kernel
theorem dX7_known_327 : decode cX7_known 327 = .ok (.invokevirtual 47, 3) := by decide +kernel
theorem dX7_known_330 : decode cX7_known 330 = .ok (.ireturn, 1) := by decide +kernel
theorem dX7_keep_0 : decode cX7_keep 0 = .ok (.aload_n 0, 1) := by decide +kernel
theorem dX7_keep_1 : decode cX7_keep 1 = .ok (.iload_n 1, 1) := by decide +kernel
theorem dX7_keep_2 : decode cX7_keep 2 = .ok (.iload_n 2, 1) := by decide +kernel
theorem dX7_keep_3 : decode cX7_keep 3 = .ok (.iload_n 3, 1) := by decide +kernel
theorem dX7_keep_4 : decode cX7_keep 4 = .ok (.iload 4, 2) := by decide +kernel
theorem dX7_keep_6 : decode cX7_keep 6 = .ok (.invokevirtual 47, 3) := by decide +kernel
theorem dX7_keep_9 : decode cX7_keep 9 = .ok (.ifCond .lt 4, 3) := by decide +kernel
theorem dX7_keep_12 : decode cX7_keep 12 = .ok (.return_, 1) := by decide +kernel
theorem dX7_keep_13 : decode cX7_keep 13 = .ok (.iconst 0, 1) := by decide +kernel
theorem dX7_keep_14 : decode cX7_keep 14 = .ok (.istore 5, 2) := by decide +kernel
theorem dX7_keep_16 : decode cX7_keep 16 = .ok (.iconst 0, 1) := by decide +kernel
theorem dX7_keep_17 : decode cX7_keep 17 = .ok (.istore 6, 2) := by decide +kernel
theorem dX7_keep_19 : decode cX7_keep 19 = .ok (.iload 6, 2) := by decide +kernel
theorem dX7_keep_21 : decode cX7_keep 21 = .ok (.iconst 2, 1) := by decide +kernel
theorem dX7_keep_22 : decode cX7_keep 22 = .ok (.if_icmp .ge 48, 3) := by decide +kernel
theorem dX7_keep_25 : decode cX7_keep 25 = .ok (.iload_n 2, 1) := by decide +kernel
theorem dX7_keep_26 : decode cX7_keep 26 = .ok (.iload 4, 2) := by decide +kernel
theorem dX7_keep_28 : decode cX7_keep 28 = .ok (.iload 6, 2) := by decide +kernel
theorem dX7_keep_30 : decode cX7_keep 30 = .ok (.invokestatic 57, 3) := by decide +kernel
theorem dX7_keep_33 : decode cX7_keep 33 = .ok (.ifCond .eq 31, 3) := by decide +kernel
theorem dX7_keep_36 : decode cX7_keep 36 = .ok (.iload 5, 2) := by decide +kernel
theorem dX7_keep_38 : decode cX7_keep 38 = .ok (.aload_n 0, 1) := by decide +kernel
theorem dX7_keep_39 : decode cX7_keep 39 = .ok (.iload_n 1, 1) := by decide +kernel
theorem dX7_keep_40 : decode cX7_keep 40 = .ok (.iload_n 2, 1) := by decide +kernel
theorem dX7_keep_41 : decode cX7_keep 41 = .ok (.iload_n 2, 1) := by decide +kernel
theorem dX7_keep_42 : decode cX7_keep 42 = .ok (.iload_n 3, 1) := by decide +kernel
theorem dX7_keep_43 : decode cX7_keep 43 = .ok (.iload 4, 2) := by decide +kernel
theorem dX7_keep_45 : decode cX7_keep 45 = .ok (.iload 6, 2) := by decide +kernel
theorem dX7_keep_47 : decode cX7_keep 47 = .ok (.invokestatic 51, 3) := by decide +kernel
theorem dX7_keep_50 : decode cX7_keep 50 = .ok (.iload_n 2, 1) := by decide +kernel
theorem dX7_keep_51 : decode cX7_keep 51 = .ok (.iload 4, 2) := by decide +kernel
theorem dX7_keep_53 : decode cX7_keep 53 = .ok (.iload 6, 2) := by decide +kernel
theorem dX7_keep_55 : decode cX7_keep 55 = .ok (.invokestatic 54, 3) := by decide +kernel
theorem dX7_keep_58 : decode cX7_keep 58 = .ok (.invokevirtual 47, 3) := by decide +kernel
theorem dX7_keep_61 : decode cX7_keep 61 = .ok (.iadd, 1) := by decide +kernel
theorem dX7_keep_62 : decode cX7_keep 62 = .ok (.istore 5, 2) := by decide +kernel
theorem dX7_keep_64 : decode cX7_keep 64 = .ok (.iinc 6 1, 3) := by decide +kernel
theorem dX7_keep_67 : decode cX7_keep 67 = .ok (.goto (-48), 3) := by decide +kernel
theorem dX7_keep_70 : decode cX7_keep 70 = .ok (.aload_n 0, 1) := by decide +kernel
theorem dX7_keep_71 : decode cX7_keep 71 = .ok (.getfield 11, 3) := by decide +kernel
theorem dX7_keep_74 : decode cX7_keep 74 = .ok (.iload_n 1, 1) := by decide +kernel
theorem dX7_keep_75 : decode cX7_keep 75 = .ok (.aaload, 1) := by decide +kernel
theorem dX7_keep_76 : decode cX7_keep 76 = .ok (.iload_n 2, 1) := by decide +kernel
theorem dX7_keep_77 : decode cX7_keep 77 = .ok (.iload_n 3, 1) := by decide +kernel
theorem dX7_keep_78 : decode cX7_keep 78 = .ok (.iload 4, 2) := by decide +kernel
theorem dX7_keep_80 : decode cX7_keep 80 = .ok (.invokestatic 39, 3) := by decide +kernel
theorem dX7_keep_83 : decode cX7_keep 83 = .ok (.iload 5, 2) := by decide +kernel
theorem dX7_keep_85 : decode cX7_keep 85 = .ok (.iastore, 1) := by decide +kernel
theorem dX7_keep_86 : decode cX7_keep 86 = .ok (.return_, 1) := by decide +kernel
theorem dX7_row_0 : decode cX7_row 0 = .ok (.bipush 21, 2) := by decide +kernel
theorem dX7_row_2 : decode cX7_row 2 = .ok (.newarray .int, 2) := by decide +kernel
theorem dX7_row_4 : decode cX7_row 4 = .ok (.astore_n 2, 1) := by decide +kernel
theorem dX7_row_5 : decode cX7_row 5 = .ok (.aload_n 2, 1) := by decide +kernel
theorem dX7_row_6 : decode cX7_row 6 = .ok (.iconst 0, 1) := by decide +kernel
theorem dX7_row_7 : decode cX7_row 7 = .ok (.iconst 1, 1) := by decide +kernel
theorem dX7_row_8 : decode cX7_row 8 = .ok (.iastore, 1) := by decide +kernel
theorem dX7_row_9 : decode cX7_row 9 = .ok (.iload_n 0, 1) := by decide +kernel
theorem dX7_row_10 : decode cX7_row 10 = .ok (.bipush 7, 2) := by decide +kernel
theorem dX7_row_12 : decode cX7_row 12 = .ok (.if_icmp .ne 11, 3) := by decide +kernel
theorem dX7_row_15 : decode cX7_row 15 = .ok (.iconst 2, 1) := by decide +kernel
theorem dX7_row_16 : decode cX7_row 16 = .ok (.iload_n 1, 1) := by decide +kernel
theorem dX7_row_17 : decode cX7_row 17 = .ok (.imul, 1) := by decide +kernel
theorem dX7_row_18 : decode cX7_row 18 = .ok (.iconst 1, 1) := by decide +kernel
theorem dX7_row_19 : decode cX7_row 19 = .ok (.isub, 1) := by decide +kernel
theorem dX7_row_20 : decode cX7_row 20 = .ok (.goto 4, 3) := by decide +kernel
theorem dX7_row_23 : decode cX7_row 23 = .ok (.iload_n 1, 1) := by decide +kernel
theorem dX7_row_24 : decode cX7_row 24 = .ok (.istore_n 3, 1) := by decide +kernel
theorem dX7_row_25 : decode cX7_row 25 = .ok (.iload_n 0, 1) := by decide +kernel
theorem dX7_row_26 : decode cX7_row 26 = .ok (.iconst 3, 1) := by decide +kernel
theorem dX7_row_27 : decode cX7_row 27 = .ok (.if_icmp .eq 14, 3) := by decide +kernel
theorem dX7_row_30 : decode cX7_row 30 = .ok (.iload_n 0, 1) := by decide +kernel
theorem dX7_row_31 : decode cX7_row 31 = .ok (.iconst 4, 1) := by decide +kernel
theorem dX7_row_32 : decode cX7_row 32 = .ok (.if_icmp .eq 9, 3) := by decide +kernel
theorem dX7_row_35 : decode cX7_row 35 = .ok (.iload_n 0, 1) := by decide +kernel
theorem dX7_row_36 : decode cX7_row 36 = .ok (.bipush 7, 2) := by decide +kernel
theorem dX7_row_38 : decode cX7_row 38 = .ok (.if_icmp .ne 7, 3) := by decide +kernel
theorem dX7_row_41 : decode cX7_row 41 = .ok (.iconst 1, 1) := by decide +kernel
theorem dX7_row_42 : decode cX7_row 42 = .ok (.goto 4, 3) := by decide +kernel
theorem dX7_row_45 : decode cX7_row 45 = .ok (.iconst 0, 1) := by decide +kernel
theorem dX7_row_46 : decode cX7_row 46 = .ok (.istore 4, 2) := by decide +kernel
theorem dX7_row_48 : decode cX7_row 48 = .ok (.iload_n 0, 1) := by decide +kernel
theorem dX7_row_49 : decode cX7_row 49 = .ok (.iconst 2, 1) := by decide +kernel
theorem dX7_row_50 : decode cX7_row 50 = .ok (.if_icmp .eq 14, 3) := by decide +kernel
theorem dX7_row_53 : decode cX7_row 53 = .ok (.iload_n 0, 1) := by decide +kernel
theorem dX7_row_54 : decode cX7_row 54 = .ok (.iconst 4, 1) := by decide +kernel
theorem dX7_row_55 : decode cX7_row 55 = .ok (.if_icmp .eq 9, 3) := by decide +kernel
theorem dX7_row_58 : decode cX7_row 58 = .ok (.iload_n 0, 1) := by decide +kernel
theorem dX7_row_59 : decode cX7_row 59 = .ok (.bipush 7, 2) := by decide +kernel
theorem dX7_row_61 : decode cX7_row 61 = .ok (.if_icmp .ne 7, 3) := by decide +kernel
theorem dX7_row_64 : decode cX7_row 64 = .ok (.iconst 1, 1) := by decide +kernel
theorem dX7_row_65 : decode cX7_row 65 = .ok (.goto 4, 3) := by decide +kernel
theorem dX7_row_68 : decode cX7_row 68 = .ok (.iconst 0, 1) := by decide +kernel
theorem dX7_row_69 : decode cX7_row 69 = .ok (.istore 5, 2) := by decide +kernel
theorem dX7_row_71 : decode cX7_row 71 = .ok (.iconst 1, 1) := by decide +kernel
theorem dX7_row_72 : decode cX7_row 72 = .ok (.istore 6, 2) := by decide +kernel
theorem dX7_row_74 : decode cX7_row 74 = .ok (.iload 6, 2) := by decide +kernel
theorem dX7_row_76 : decode cX7_row 76 = .ok (.iload_n 3, 1) := by decide +kernel
theorem dX7_row_77 : decode cX7_row 77 = .ok (.if_icmp .gt 82, 3) := by decide +kernel
theorem dX7_row_80 : decode cX7_row 80 = .ok (.iload 6, 2) := by decide +kernel
theorem dX7_row_82 : decode cX7_row 82 = .ok (.bipush 20, 2) := by decide +kernel
theorem dX7_row_84 : decode cX7_row 84 = .ok (.if_icmp .gt 75, 3) := by decide +kernel
theorem dX7_row_87 : decode cX7_row 87 = .ok (.iload 4, 2) := by decide +kernel
theorem dX7_row_89 : decode cX7_row 89 = .ok (.ifCond .eq 13, 3) := by decide +kernel
theorem dX7_row_92 : decode cX7_row 92 = .ok (.iload 6, 2) := by decide +kernel
theorem dX7_row_94 : decode cX7_row 94 = .ok (.iconst 2, 1) := by decide +kernel
theorem dX7_row_95 : decode cX7_row 95 = .ok (.irem, 1) := by decide +kernel
theorem dX7_row_96 : decode cX7_row 96 = .ok (.ifCond .ne 6, 3) := by decide +kernel
theorem dX7_row_99 : decode cX7_row 99 = .ok (.goto 54, 3) := by decide +kernel
theorem dX7_row_102 : decode cX7_row 102 = .ok (.iload 6, 2) := by decide +kernel
theorem dX7_row_104 : decode cX7_row 104 = .ok (.istore 7, 2) := by decide +kernel
theorem dX7_row_106 : decode cX7_row 106 = .ok (.iload 7, 2) := by decide +kernel
theorem dX7_row_108 : decode cX7_row 108 = .ok (.bipush 20, 2) := by decide +kernel
theorem dX7_row_110 : decode cX7_row 110 = .ok (.if_icmp .gt 43, 3) := by decide +kernel
theorem dX7_row_113 : decode cX7_row 113 = .ok (.iload 5, 2) := by decide +kernel
theorem dX7_row_115 : decode cX7_row 115 = .ok (.ifCond .eq 14, 3) := by decide +kernel
theorem dX7_row_118 : decode cX7_row 118 = .ok (.bipush 20, 2) := by decide +kernel
theorem dX7_row_120 : decode cX7_row 120 = .ok (.iload 6, 2) := by decide +kernel
theorem dX7_row_122 : decode cX7_row 122 = .ok (.iadd, 1) := by decide +kernel
theorem dX7_row_123 : decode cX7_row 123 = .ok (.iload 7, 2) := by decide +kernel
theorem dX7_row_125 : decode cX7_row 125 = .ok (.isub, 1) := by decide +kernel
theorem dX7_row_126 : decode cX7_row 126 = .ok (.goto 5, 3) := by decide +kernel
theorem dX7_row_129 : decode cX7_row 129 = .ok (.iload 7, 2) := by decide +kernel
theorem dX7_row_131 : decode cX7_row 131 = .ok (.istore 8, 2) := by decide +kernel
theorem dX7_row_133 : decode cX7_row 133 = .ok (.aload_n 2, 1) := by decide +kernel
theorem dX7_row_134 : decode cX7_row 134 = .ok (.iload 8, 2) := by decide +kernel
theorem dX7_row_136 : decode cX7_row 136 = .ok (.dup2, 1) := by decide +kernel
theorem dX7_row_137 : decode cX7_row 137 = .ok (.iaload, 1) := by decide +kernel
theorem dX7_row_138 : decode cX7_row 138 = .ok (.aload_n 2, 1) := by decide +kernel
theorem dX7_row_139 : decode cX7_row 139 = .ok (.iload 8, 2) := by decide +kernel
theorem dX7_row_141 : decode cX7_row 141 = .ok (.iload 6, 2) := by decide +kernel
theorem dX7_row_143 : decode cX7_row 143 = .ok (.isub, 1) := by decide +kernel
theorem dX7_row_144 : decode cX7_row 144 = .ok (.iaload, 1) := by decide +kernel
theorem dX7_row_145 : decode cX7_row 145 = .ok (.iadd, 1) := by decide +kernel
theorem dX7_row_146 : decode cX7_row 146 = .ok (.iastore, 1) := by decide +kernel
theorem dX7_row_147 : decode cX7_row 147 = .ok (.iinc 7 1, 3) := by decide +kernel
theorem dX7_row_150 : decode cX7_row 150 = .ok (.goto (-44), 3) := by decide +kernel
theorem dX7_row_153 : decode cX7_row 153 = .ok (.iinc 6 1, 3) := by decide +kernel
theorem dX7_row_156 : decode cX7_row 156 = .ok (.goto (-82), 3) := by decide +kernel
theorem dX7_row_159 : decode cX7_row 159 = .ok (.aload_n 2, 1) := by decide +kernel
theorem dX7_row_160 : decode cX7_row 160 = .ok (.areturn, 1) := by decide +kernel
theorem dX7_told_0 : decode cX7_told 0 = .ok (.iload_n 1, 1) := by decide +kernel
theorem dX7_told_1 : decode cX7_told 1 = .ok (.iconst 1, 1) := by decide +kernel
theorem dX7_told_2 : decode cX7_told 2 = .ok (.if_icmp .ne 9, 3) := by decide +kernel
theorem dX7_told_5 : decode cX7_told 5 = .ok (.iload_n 2, 1) := by decide +kernel
theorem dX7_told_6 : decode cX7_told 6 = .ok (.iload_n 3, 1) := by decide +kernel
theorem dX7_told_7 : decode cX7_told 7 = .ok (.isub, 1) := by decide +kernel
theorem dX7_told_8 : decode cX7_told 8 = .ok (.goto 21, 3) := by decide +kernel
theorem dX7_told_11 : decode cX7_told 11 = .ok (.iload_n 1, 1) := by decide +kernel
theorem dX7_told_12 : decode cX7_told 12 = .ok (.iconst 5, 1) := by decide +kernel
theorem dX7_told_13 : decode cX7_told 13 = .ok (.if_icmp .ne 15, 3) := by decide +kernel
theorem dX7_told_16 : decode cX7_told 16 = .ok (.iload_n 2, 1) := by decide +kernel
theorem dX7_told_17 : decode cX7_told 17 = .ok (.iload_n 3, 1) := by decide +kernel
theorem dX7_told_18 : decode cX7_told 18 = .ok (.iload_n 3, 1) := by decide +kernel
theorem dX7_told_19 : decode cX7_told 19 = .ok (.iconst 1, 1) := by decide +kernel
theorem dX7_told_20 : decode cX7_told 20 = .ok (.iadd, 1) := by decide +kernel
theorem dX7_told_21 : decode cX7_told 21 = .ok (.imul, 1) := by decide +kernel
theorem dX7_told_22 : decode cX7_told 22 = .ok (.iconst 2, 1) := by decide +kernel
theorem dX7_told_23 : decode cX7_told 23 = .ok (.idiv, 1) := by decide +kernel
theorem dX7_told_24 : decode cX7_told 24 = .ok (.isub, 1) := by decide +kernel
theorem dX7_told_25 : decode cX7_told 25 = .ok (.goto 4, 3) := by decide +kernel
theorem dX7_told_28 : decode cX7_told 28 = .ok (.iload_n 2, 1) := by decide +kernel
theorem dX7_told_29 : decode cX7_told 29 = .ok (.istore 4, 2) := by decide +kernel
theorem dX7_told_31 : decode cX7_told 31 = .ok (.iload 4, 2) := by decide +kernel
theorem dX7_told_33 : decode cX7_told 33 = .ok (.ifCond .ge 7, 3) := by decide +kernel
theorem dX7_told_36 : decode cX7_told 36 = .ok (.iconst 0, 1) := by decide +kernel
theorem dX7_told_37 : decode cX7_told 37 = .ok (.goto 7, 3) := by decide +kernel
theorem dX7_told_40 : decode cX7_told 40 = .ok (.aload_n 0, 1) := by decide +kernel
theorem dX7_told_41 : decode cX7_told 41 = .ok (.iload 4, 2) := by decide +kernel
theorem dX7_told_43 : decode cX7_told 43 = .ok (.iaload, 1) := by decide +kernel
theorem dX7_told_44 : decode cX7_told 44 = .ok (.ireturn, 1) := by decide +kernel
theorem dX7_series_0 : decode cX7_series 0 = .ok (.iload_n 0, 1) := by decide +kernel
theorem dX7_series_1 : decode cX7_series 1 = .ok (.iload_n 2, 1) := by decide +kernel
theorem dX7_series_2 : decode cX7_series 2 = .ok (.invokestatic 64, 3) := by decide +kernel
theorem dX7_series_5 : decode cX7_series 5 = .ok (.iload_n 0, 1) := by decide +kernel
theorem dX7_series_6 : decode cX7_series 6 = .ok (.iload_n 1, 1) := by decide +kernel
theorem dX7_series_7 : decode cX7_series 7 = .ok (.iload_n 2, 1) := by decide +kernel
theorem dX7_series_8 : decode cX7_series 8 = .ok (.invokestatic 68, 3) := by decide +kernel
theorem dX7_series_11 : decode cX7_series 11 = .ok (.ireturn, 1) := by decide +kernel
theorem dX7_number_0 : decode cX7_number 0 = .ok (.iconst 0, 1) := by decide +kernel
theorem dX7_number_1 : decode cX7_number 1 = .ok (.istore_n 1, 1) := by decide +kernel
theorem dX7_number_2 : decode cX7_number 2 = .ok (.iconst 1, 1) := by decide +kernel
theorem dX7_number_3 : decode cX7_number 3 = .ok (.istore_n 2, 1) := by decide +kernel
theorem dX7_number_4 : decode cX7_number 4 = .ok (.iload_n 2, 1) := by decide +kernel
theorem dX7_number_5 : decode cX7_number 5 = .ok (.bipush 20, 2) := by decide +kernel
theorem dX7_number_7 : decode cX7_number 7 = .ok (.if_icmp .gt 17, 3) := by decide +kernel
theorem dX7_number_10 : decode cX7_number 10 = .ok (.iload_n 1, 1) := by decide +kernel
theorem dX7_number_11 : decode cX7_number 11 = .ok (.iload_n 2, 1) := by decide +kernel
theorem dX7_number_12 : decode cX7_number 12 = .ok (.aload_n 0, 1) := by decide +kernel
theorem dX7_number_13 : decode cX7_number 13 = .ok (.iload_n 2, 1) := by decide +kernel
theorem dX7_number_14 : decode cX7_number 14 = .ok (.iaload, 1) := by decide +kernel
theorem dX7_number_15 : decode cX7_number 15 = .ok (.imul, 1) := by decide +kernel
theorem dX7_number_16 : decode cX7_number 16 = .ok (.iadd, 1) := by decide +kernel
theorem dX7_number_17 : decode cX7_number 17 = .ok (.istore_n 1, 1) := by decide +kernel
theorem dX7_number_18 : decode cX7_number 18 = .ok (.iinc 2 1, 3) := by decide +kernel
theorem dX7_number_21 : decode cX7_number 21 = .ok (.goto (-17), 3) := by decide +kernel
theorem dX7_number_24 : decode cX7_number 24 = .ok (.iload_n 1, 1) := by decide +kernel
theorem dX7_number_25 : decode cX7_number 25 = .ok (.ireturn, 1) := by decide +kernel
theorem dX7_parts_0 : decode cX7_parts 0 = .ok (.iconst 0, 1) := by decide +kernel
theorem dX7_parts_1 : decode cX7_parts 1 = .ok (.istore_n 1, 1) := by decide +kernel
theorem dX7_parts_2 : decode cX7_parts 2 = .ok (.iconst 1, 1) := by decide +kernel
theorem dX7_parts_3 : decode cX7_parts 3 = .ok (.istore_n 2, 1) := by decide +kernel
theorem dX7_parts_4 : decode cX7_parts 4 = .ok (.iload_n 2, 1) := by decide +kernel
theorem dX7_parts_5 : decode cX7_parts 5 = .ok (.bipush 20, 2) := by decide +kernel
theorem dX7_parts_7 : decode cX7_parts 7 = .ok (.if_icmp .gt 15, 3) := by decide +kernel
theorem dX7_parts_10 : decode cX7_parts 10 = .ok (.iload_n 1, 1) := by decide +kernel
theorem dX7_parts_11 : decode cX7_parts 11 = .ok (.aload_n 0, 1) := by decide +kernel
theorem dX7_parts_12 : decode cX7_parts 12 = .ok (.iload_n 2, 1) := by decide +kernel
theorem dX7_parts_13 : decode cX7_parts 13 = .ok (.iaload, 1) := by decide +kernel
theorem dX7_parts_14 : decode cX7_parts 14 = .ok (.iadd, 1) := by decide +kernel
theorem dX7_parts_15 : decode cX7_parts 15 = .ok (.istore_n 1, 1) := by decide +kernel
theorem dX7_parts_16 : decode cX7_parts 16 = .ok (.iinc 2 1, 3) := by decide +kernel
theorem dX7_parts_19 : decode cX7_parts 19 = .ok (.goto (-15), 3) := by decide +kernel
theorem dX7_parts_22 : decode cX7_parts 22 = .ok (.iload_n 1, 1) := by decide +kernel
theorem dX7_parts_23 : decode cX7_parts 23 = .ok (.ireturn, 1) := by decide +kernel
theorem dX7_unlikeOnes_0 : decode cX7_unlikeOnes 0 = .ok (.iconst 0, 1) := by decide +kernel
theorem dX7_unlikeOnes_1 : decode cX7_unlikeOnes 1 = .ok (.istore_n 1, 1) := by decide +kernel
theorem dX7_unlikeOnes_2 : decode cX7_unlikeOnes 2 = .ok (.iconst 1, 1) := by decide +kernel
theorem dX7_unlikeOnes_3 : decode cX7_unlikeOnes 3 = .ok (.istore_n 2, 1) := by decide +kernel
theorem dX7_unlikeOnes_4 : decode cX7_unlikeOnes 4 = .ok (.iload_n 2, 1) := by decide +kernel
theorem dX7_unlikeOnes_5 : decode cX7_unlikeOnes 5 = .ok (.bipush 20, 2) := by decide +kernel
theorem dX7_unlikeOnes_7 : decode cX7_unlikeOnes 7 = .ok (.if_icmp .gt 26, 3) := by decide +kernel
theorem dX7_unlikeOnes_10 : decode cX7_unlikeOnes 10 = .ok (.iload_n 1, 1) := by decide +kernel
theorem dX7_unlikeOnes_11 : decode cX7_unlikeOnes 11 = .ok (.aload_n 0, 1) := by decide +kernel
theorem dX7_unlikeOnes_12 : decode cX7_unlikeOnes 12 = .ok (.iload_n 2, 1) := by decide +kernel
theorem dX7_unlikeOnes_13 : decode cX7_unlikeOnes 13 = .ok (.iaload, 1) := by decide +kernel
theorem dX7_unlikeOnes_14 : decode cX7_unlikeOnes 14 = .ok (.ifCond .le 7, 3) := by decide +kernel
theorem dX7_unlikeOnes_17 : decode cX7_unlikeOnes 17 = .ok (.iconst 1, 1) := by decide +kernel
theorem dX7_unlikeOnes_18 : decode cX7_unlikeOnes 18 = .ok (.goto 4, 3) := by decide +kernel
theorem dX7_unlikeOnes_21 : decode cX7_unlikeOnes 21 = .ok (.iconst 0, 1) := by decide +kernel
theorem dX7_unlikeOnes_22 : decode cX7_unlikeOnes 22 = .ok (.invokestatic 43, 3) := by decide +kernel
theorem dX7_unlikeOnes_25 : decode cX7_unlikeOnes 25 = .ok (.iadd, 1) := by decide +kernel
theorem dX7_unlikeOnes_26 : decode cX7_unlikeOnes 26 = .ok (.istore_n 1, 1) := by decide +kernel
theorem dX7_unlikeOnes_27 : decode cX7_unlikeOnes 27 = .ok (.iinc 2 1, 3) := by decide +kernel
theorem dX7_unlikeOnes_30 : decode cX7_unlikeOnes 30 = .ok (.goto (-26), 3) := by decide +kernel
theorem dX7_unlikeOnes_33 : decode cX7_unlikeOnes 33 = .ok (.iload_n 1, 1) := by decide +kernel
theorem dX7_unlikeOnes_34 : decode cX7_unlikeOnes 34 = .ok (.ireturn, 1) := by decide +kernel
theorem dX7_isUnlike_0 : decode cX7_isUnlike 0 = .ok (.aload_n 0, 1) := by decide +kernel
theorem dX7_isUnlike_1 : decode cX7_isUnlike 1 = .ok (.invokestatic 72, 3) := by decide +kernel
theorem dX7_isUnlike_4 : decode cX7_isUnlike 4 = .ok (.aload_n 0, 1) := by decide +kernel
theorem dX7_isUnlike_5 : decode cX7_isUnlike 5 = .ok (.invokestatic 76, 3) := by decide +kernel
theorem dX7_isUnlike_8 : decode cX7_isUnlike 8 = .ok (.if_icmp .ne 7, 3) := by decide +kernel
theorem dX7_isUnlike_11 : decode cX7_isUnlike 11 = .ok (.iconst 1, 1) := by decide +kernel
theorem dX7_isUnlike_12 : decode cX7_isUnlike 12 = .ok (.goto 4, 3) := by decide +kernel
theorem dX7_isUnlike_15 : decode cX7_isUnlike 15 = .ok (.iconst 0, 1) := by decide +kernel
theorem dX7_isUnlike_16 : decode cX7_isUnlike 16 = .ok (.ireturn, 1) := by decide +kernel
theorem dX7_isOdd_0 : decode cX7_isOdd 0 = .ok (.iconst 1, 1) := by decide +kernel
theorem dX7_isOdd_1 : decode cX7_isOdd 1 = .ok (.istore_n 1, 1) := by decide +kernel
theorem dX7_isOdd_2 : decode cX7_isOdd 2 = .ok (.iconst 2, 1) := by decide +kernel
theorem dX7_isOdd_3 : decode cX7_isOdd 3 = .ok (.istore_n 2, 1) := by decide +kernel
theorem dX7_isOdd_4 : decode cX7_isOdd 4 = .ok (.iload_n 2, 1) := by decide +kernel
theorem dX7_isOdd_5 : decode cX7_isOdd 5 = .ok (.bipush 20, 2) := by decide +kernel
theorem dX7_isOdd_7 : decode cX7_isOdd 7 = .ok (.if_icmp .gt 23, 3) := by decide +kernel
theorem dX7_isOdd_10 : decode cX7_isOdd 10 = .ok (.iload_n 1, 1) := by decide +kernel
theorem dX7_isOdd_11 : decode cX7_isOdd 11 = .ok (.aload_n 0, 1) := by decide +kernel
theorem dX7_isOdd_12 : decode cX7_isOdd 12 = .ok (.iload_n 2, 1) := by decide +kernel
theorem dX7_isOdd_13 : decode cX7_isOdd 13 = .ok (.iaload, 1) := by decide +kernel
theorem dX7_isOdd_14 : decode cX7_isOdd 14 = .ok (.ifCond .ne 7, 3) := by decide +kernel
theorem dX7_isOdd_17 : decode cX7_isOdd 17 = .ok (.iconst 1, 1) := by decide +kernel
theorem dX7_isOdd_18 : decode cX7_isOdd 18 = .ok (.goto 4, 3) := by decide +kernel
theorem dX7_isOdd_21 : decode cX7_isOdd 21 = .ok (.iconst 0, 1) := by decide +kernel
theorem dX7_isOdd_22 : decode cX7_isOdd 22 = .ok (.iand, 1) := by decide +kernel
theorem dX7_isOdd_23 : decode cX7_isOdd 23 = .ok (.istore_n 1, 1) := by decide +kernel
theorem dX7_isOdd_24 : decode cX7_isOdd 24 = .ok (.iinc 2 2, 3) := by decide +kernel
theorem dX7_isOdd_27 : decode cX7_isOdd 27 = .ok (.goto (-23), 3) := by decide +kernel
theorem dX7_isOdd_30 : decode cX7_isOdd 30 = .ok (.iload_n 1, 1) := by decide +kernel
theorem dX7_isOdd_31 : decode cX7_isOdd 31 = .ok (.ireturn, 1) := by decide +kernel
theorem dX7_greatest_0 : decode cX7_greatest 0 = .ok (.bipush 20, 2) := by decide +kernel
theorem dX7_greatest_2 : decode cX7_greatest 2 = .ok (.istore_n 1, 1) := by decide +kernel
theorem dX7_greatest_3 : decode cX7_greatest 3 = .ok (.iload_n 1, 1) := by decide +kernel
theorem dX7_greatest_4 : decode cX7_greatest 4 = .ok (.ifCond .le 15, 3) := by decide +kernel
theorem dX7_greatest_7 : decode cX7_greatest 7 = .ok (.aload_n 0, 1) := by decide +kernel
theorem dX7_greatest_8 : decode cX7_greatest 8 = .ok (.iload_n 1, 1) := by decide +kernel
theorem dX7_greatest_9 : decode cX7_greatest 9 = .ok (.iaload, 1) := by decide +kernel
theorem dX7_greatest_10 : decode cX7_greatest 10 = .ok (.ifCond .ne 9, 3) := by decide +kernel
theorem dX7_greatest_13 : decode cX7_greatest 13 = .ok (.iinc 1 (-1), 3) := by decide +kernel
theorem dX7_greatest_16 : decode cX7_greatest 16 = .ok (.goto (-13), 3) := by decide +kernel
theorem dX7_greatest_19 : decode cX7_greatest 19 = .ok (.iload_n 1, 1) := by decide +kernel
theorem dX7_greatest_20 : decode cX7_greatest 20 = .ok (.ireturn, 1) := by decide +kernel
theorem dX7_turned_0 : decode cX7_turned 0 = .ok (.bipush 21, 2) := by decide +kernel
theorem dX7_turned_2 : decode cX7_turned 2 = .ok (.newarray .int, 2) := by decide +kernel
theorem dX7_turned_4 : decode cX7_turned 4 = .ok (.astore_n 1, 1) := by decide +kernel
theorem dX7_turned_5 : decode cX7_turned 5 = .ok (.iconst 0, 1) := by decide +kernel
theorem dX7_turned_6 : decode cX7_turned 6 = .ok (.istore_n 2, 1) := by decide +kernel
theorem dX7_turned_7 : decode cX7_turned 7 = .ok (.bipush 20, 2) := by decide +kernel
theorem dX7_turned_9 : decode cX7_turned 9 = .ok (.istore_n 3, 1) := by decide +kernel
theorem dX7_turned_10 : decode cX7_turned 10 = .ok (.iload_n 3, 1) := by decide +kernel
theorem dX7_turned_11 : decode cX7_turned 11 = .ok (.ifCond .le 26, 3) := by decide +kernel
theorem dX7_turned_14 : decode cX7_turned 14 = .ok (.iload_n 2, 1) := by decide +kernel
theorem dX7_turned_15 : decode cX7_turned 15 = .ok (.aload_n 0, 1) := by decide +kernel
theorem dX7_turned_16 : decode cX7_turned 16 = .ok (.iload_n 3, 1) := by decide +kernel
theorem dX7_turned_17 : decode cX7_turned 17 = .ok (.iaload, 1) := by decide +kernel
theorem dX7_turned_18 : decode cX7_turned 18 = .ok (.iadd, 1) := by decide +kernel
theorem dX7_turned_19 : decode cX7_turned 19 = .ok (.istore_n 2, 1) := by decide +kernel
theorem dX7_turned_20 : decode cX7_turned 20 = .ok (.iload_n 2, 1) := by decide +kernel
theorem dX7_turned_21 : decode cX7_turned 21 = .ok (.ifCond .le 10, 3) := by decide +kernel
theorem dX7_turned_24 : decode cX7_turned 24 = .ok (.aload_n 1, 1) := by decide +kernel
theorem dX7_turned_25 : decode cX7_turned 25 = .ok (.iload_n 2, 1) := by decide +kernel
theorem dX7_turned_26 : decode cX7_turned 26 = .ok (.dup2, 1) := by decide +kernel
theorem dX7_turned_27 : decode cX7_turned 27 = .ok (.iaload, 1) := by decide +kernel
theorem dX7_turned_28 : decode cX7_turned 28 = .ok (.iconst 1, 1) := by decide +kernel
theorem dX7_turned_29 : decode cX7_turned 29 = .ok (.iadd, 1) := by decide +kernel
theorem dX7_turned_30 : decode cX7_turned 30 = .ok (.iastore, 1) := by decide +kernel
theorem dX7_turned_31 : decode cX7_turned 31 = .ok (.iinc 3 (-1), 3) := by decide +kernel
theorem dX7_turned_34 : decode cX7_turned 34 = .ok (.goto (-24), 3) := by decide +kernel
theorem dX7_turned_37 : decode cX7_turned 37 = .ok (.aload_n 1, 1) := by decide +kernel
theorem dX7_turned_38 : decode cX7_turned 38 = .ok (.areturn, 1) := by decide +kernel
theorem dX7_areSame_0 : decode cX7_areSame 0 = .ok (.iconst 1, 1) := by decide +kernel
theorem dX7_areSame_1 : decode cX7_areSame 1 = .ok (.istore_n 2, 1) := by decide +kernel
theorem dX7_areSame_2 : decode cX7_areSame 2 = .ok (.iconst 1, 1) := by decide +kernel
theorem dX7_areSame_3 : decode cX7_areSame 3 = .ok (.istore_n 3, 1) := by decide +kernel
theorem dX7_areSame_4 : decode cX7_areSame 4 = .ok (.iload_n 3, 1) := by decide +kernel
theorem dX7_areSame_5 : decode cX7_areSame 5 = .ok (.bipush 20, 2) := by decide +kernel
theorem dX7_areSame_7 : decode cX7_areSame 7 = .ok (.if_icmp .gt 26, 3) := by decide +kernel
theorem dX7_areSame_10 : decode cX7_areSame 10 = .ok (.iload_n 2, 1) := by decide +kernel
theorem dX7_areSame_11 : decode cX7_areSame 11 = .ok (.aload_n 0, 1) := by decide +kernel
theorem dX7_areSame_12 : decode cX7_areSame 12 = .ok (.iload_n 3, 1) := by decide +kernel
theorem dX7_areSame_13 : decode cX7_areSame 13 = .ok (.iaload, 1) := by decide +kernel
theorem dX7_areSame_14 : decode cX7_areSame 14 = .ok (.aload_n 1, 1) := by decide +kernel
theorem dX7_areSame_15 : decode cX7_areSame 15 = .ok (.iload_n 3, 1) := by decide +kernel
theorem dX7_areSame_16 : decode cX7_areSame 16 = .ok (.iaload, 1) := by decide +kernel
theorem dX7_areSame_17 : decode cX7_areSame 17 = .ok (.if_icmp .ne 7, 3) := by decide +kernel
theorem dX7_areSame_20 : decode cX7_areSame 20 = .ok (.iconst 1, 1) := by decide +kernel
theorem dX7_areSame_21 : decode cX7_areSame 21 = .ok (.goto 4, 3) := by decide +kernel
theorem dX7_areSame_24 : decode cX7_areSame 24 = .ok (.iconst 0, 1) := by decide +kernel
theorem dX7_areSame_25 : decode cX7_areSame 25 = .ok (.iand, 1) := by decide +kernel
theorem dX7_areSame_26 : decode cX7_areSame 26 = .ok (.istore_n 2, 1) := by decide +kernel
theorem dX7_areSame_27 : decode cX7_areSame 27 = .ok (.iinc 3 1, 3) := by decide +kernel
theorem dX7_areSame_30 : decode cX7_areSame 30 = .ok (.goto (-26), 3) := by decide +kernel
theorem dX7_areSame_33 : decode cX7_areSame 33 = .ok (.iload_n 2, 1) := by decide +kernel
theorem dX7_areSame_34 : decode cX7_areSame 34 = .ok (.ireturn, 1) := by decide +kernel
theorem dX7_partAt_0 : decode cX7_partAt 0 = .ok (.iconst 0, 1) := by decide +kernel
theorem dX7_partAt_1 : decode cX7_partAt 1 = .ok (.istore_n 2, 1) := by decide +kernel
theorem dX7_partAt_2 : decode cX7_partAt 2 = .ok (.bipush 20, 2) := by decide +kernel
theorem dX7_partAt_4 : decode cX7_partAt 4 = .ok (.istore_n 3, 1) := by decide +kernel
theorem dX7_partAt_5 : decode cX7_partAt 5 = .ok (.iload_n 3, 1) := by decide +kernel
theorem dX7_partAt_6 : decode cX7_partAt 6 = .ok (.ifCond .le 22, 3) := by decide +kernel
theorem dX7_partAt_9 : decode cX7_partAt 9 = .ok (.iload_n 2, 1) := by decide +kernel
theorem dX7_partAt_10 : decode cX7_partAt 10 = .ok (.aload_n 0, 1) := by decide +kernel
theorem dX7_partAt_11 : decode cX7_partAt 11 = .ok (.iload_n 3, 1) := by decide +kernel
theorem dX7_partAt_12 : decode cX7_partAt 12 = .ok (.iaload, 1) := by decide +kernel
theorem dX7_partAt_13 : decode cX7_partAt 13 = .ok (.iadd, 1) := by decide +kernel
theorem dX7_partAt_14 : decode cX7_partAt 14 = .ok (.istore_n 2, 1) := by decide +kernel
theorem dX7_partAt_15 : decode cX7_partAt 15 = .ok (.iload_n 2, 1) := by decide +kernel
theorem dX7_partAt_16 : decode cX7_partAt 16 = .ok (.iload_n 1, 1) := by decide +kernel
theorem dX7_partAt_17 : decode cX7_partAt 17 = .ok (.if_icmp .lt 5, 3) := by decide +kernel
theorem dX7_partAt_20 : decode cX7_partAt 20 = .ok (.iload_n 3, 1) := by decide +kernel
theorem dX7_partAt_21 : decode cX7_partAt 21 = .ok (.ireturn, 1) := by decide +kernel
theorem dX7_partAt_22 : decode cX7_partAt 22 = .ok (.iinc 3 (-1), 3) := by decide +kernel
theorem dX7_partAt_25 : decode cX7_partAt 25 = .ok (.goto (-20), 3) := by decide +kernel
theorem dX7_partAt_28 : decode cX7_partAt 28 = .ok (.iconst 0, 1) := by decide +kernel
theorem dX7_partAt_29 : decode cX7_partAt 29 = .ok (.ireturn, 1) := by decide +kernel
theorem dX7_isOwnTurned_0 : decode cX7_isOwnTurned 0 = .ok (.iconst 0, 1) := by decide +kernel
theorem dX7_isOwnTurned_1 : decode cX7_isOwnTurned 1 = .ok (.istore_n 1, 1) := by decide +kernel
theorem dX7_isOwnTurned_2 : decode cX7_isOwnTurned 2 = .ok (.aload_n 0, 1) := by decide +kernel
theorem dX7_isOwnTurned_3 : decode cX7_isOwnTurned 3 = .ok (.invokestatic 72, 3) := by decide +kernel
theorem dX7_isOwnTurned_6 : decode cX7_isOwnTurned 6 = .ok (.aload_n 0, 1) := by decide +kernel
theorem dX7_isOwnTurned_7 : decode cX7_isOwnTurned 7 = .ok (.invokestatic 79, 3) := by decide +kernel
theorem dX7_isOwnTurned_10 : decode cX7_isOwnTurned 10 = .ok (.if_icmp .ne 7, 3) := by decide +kernel
theorem dX7_isOwnTurned_13 : decode cX7_isOwnTurned 13 = .ok (.iconst 1, 1) := by decide +kernel
theorem dX7_isOwnTurned_14 : decode cX7_isOwnTurned 14 = .ok (.goto 4, 3) := by decide +kernel
theorem dX7_isOwnTurned_17 : decode cX7_isOwnTurned 17 = .ok (.iconst 0, 1) := by decide +kernel
theorem dX7_isOwnTurned_18 : decode cX7_isOwnTurned 18 = .ok (.istore_n 2, 1) := by decide +kernel
theorem dX7_isOwnTurned_19 : decode cX7_isOwnTurned 19 = .ok (.bipush 20, 2) := by decide +kernel
theorem dX7_isOwnTurned_21 : decode cX7_isOwnTurned 21 = .ok (.istore_n 3, 1) := by decide +kernel
theorem dX7_isOwnTurned_22 : decode cX7_isOwnTurned 22 = .ok (.iload_n 3, 1) := by decide +kernel
theorem dX7_isOwnTurned_23 : decode cX7_isOwnTurned 23 = .ok (.ifCond .le 34, 3) := by decide +kernel
theorem dX7_isOwnTurned_26 : decode cX7_isOwnTurned 26 = .ok (.iload_n 2, 1) := by decide +kernel
theorem dX7_isOwnTurned_27 : decode cX7_isOwnTurned 27 = .ok (.ifCond .eq 30, 3) := by decide +kernel
theorem dX7_isOwnTurned_30 : decode cX7_isOwnTurned 30 = .ok (.iload_n 1, 1) := by decide +kernel
theorem dX7_isOwnTurned_31 : decode cX7_isOwnTurned 31 = .ok (.aload_n 0, 1) := by decide +kernel
theorem dX7_isOwnTurned_32 : decode cX7_isOwnTurned 32 = .ok (.iload_n 3, 1) := by decide +kernel
theorem dX7_isOwnTurned_33 : decode cX7_isOwnTurned 33 = .ok (.iaload, 1) := by decide +kernel
theorem dX7_isOwnTurned_34 : decode cX7_isOwnTurned 34 = .ok (.iadd, 1) := by decide +kernel
theorem dX7_isOwnTurned_35 : decode cX7_isOwnTurned 35 = .ok (.istore_n 1, 1) := by decide +kernel
theorem dX7_isOwnTurned_36 : decode cX7_isOwnTurned 36 = .ok (.aload_n 0, 1) := by decide +kernel
theorem dX7_isOwnTurned_37 : decode cX7_isOwnTurned 37 = .ok (.iload_n 3, 1) := by decide +kernel
theorem dX7_isOwnTurned_38 : decode cX7_isOwnTurned 38 = .ok (.invokestatic 82, 3) := by decide +kernel
theorem dX7_isOwnTurned_41 : decode cX7_isOwnTurned 41 = .ok (.iload_n 1, 1) := by decide +kernel
theorem dX7_isOwnTurned_42 : decode cX7_isOwnTurned 42 = .ok (.if_icmp .ne 7, 3) := by decide +kernel
theorem dX7_isOwnTurned_45 : decode cX7_isOwnTurned 45 = .ok (.iconst 1, 1) := by decide +kernel
theorem dX7_isOwnTurned_46 : decode cX7_isOwnTurned 46 = .ok (.goto 4, 3) := by decide +kernel
theorem dX7_isOwnTurned_49 : decode cX7_isOwnTurned 49 = .ok (.iconst 0, 1) := by decide +kernel
theorem dX7_isOwnTurned_50 : decode cX7_isOwnTurned 50 = .ok (.istore_n 2, 1) := by decide +kernel
theorem dX7_isOwnTurned_51 : decode cX7_isOwnTurned 51 = .ok (.iinc 3 (-1), 3) := by decide +kernel
theorem dX7_isOwnTurned_54 : decode cX7_isOwnTurned 54 = .ok (.goto (-32), 3) := by decide +kernel
theorem dX7_isOwnTurned_57 : decode cX7_isOwnTurned 57 = .ok (.iload_n 2, 1) := by decide +kernel
theorem dX7_isOwnTurned_58 : decode cX7_isOwnTurned 58 = .ok (.ireturn, 1) := by decide +kernel
theorem dX7_isOfKind_0 : decode cX7_isOfKind 0 = .ok (.iload_n 1, 1) := by decide +kernel
theorem dX7_isOfKind_1 : decode cX7_isOfKind 1 = .ok (.tableswitch 176 0 6 #[43, 57, 71, 92, 113, 141, 162], 43) := by decide +kernel
theorem dX7_isOfKind_44 : decode cX7_isOfKind 44 = .ok (.aload_n 0, 1) := by decide +kernel
theorem dX7_isOfKind_45 : decode cX7_isOfKind 45 = .ok (.invokestatic 79, 3) := by decide +kernel
theorem dX7_isOfKind_48 : decode cX7_isOfKind 48 = .ok (.iload_n 2, 1) := by decide +kernel
theorem dX7_isOfKind_49 : decode cX7_isOfKind 49 = .ok (.if_icmp .gt 7, 3) := by decide +kernel
theorem dX7_isOfKind_52 : decode cX7_isOfKind 52 = .ok (.iconst 1, 1) := by decide +kernel
theorem dX7_isOfKind_53 : decode cX7_isOfKind 53 = .ok (.goto 4, 3) := by decide +kernel
theorem dX7_isOfKind_56 : decode cX7_isOfKind 56 = .ok (.iconst 0, 1) := by decide +kernel
theorem dX7_isOfKind_57 : decode cX7_isOfKind 57 = .ok (.ireturn, 1) := by decide +kernel
theorem dX7_isOfKind_58 : decode cX7_isOfKind 58 = .ok (.aload_n 0, 1) := by decide +kernel
theorem dX7_isOfKind_59 : decode cX7_isOfKind 59 = .ok (.invokestatic 72, 3) := by decide +kernel
theorem dX7_isOfKind_62 : decode cX7_isOfKind 62 = .ok (.iload_n 2, 1) := by decide +kernel
theorem dX7_isOfKind_63 : decode cX7_isOfKind 63 = .ok (.if_icmp .ne 7, 3) := by decide +kernel
theorem dX7_isOfKind_66 : decode cX7_isOfKind 66 = .ok (.iconst 1, 1) := by decide +kernel
theorem dX7_isOfKind_67 : decode cX7_isOfKind 67 = .ok (.goto 4, 3) := by decide +kernel
theorem dX7_isOfKind_70 : decode cX7_isOfKind 70 = .ok (.iconst 0, 1) := by decide +kernel
theorem dX7_isOfKind_71 : decode cX7_isOfKind 71 = .ok (.ireturn, 1) := by decide +kernel
theorem dX7_isOfKind_72 : decode cX7_isOfKind 72 = .ok (.aload_n 0, 1) := by decide +kernel
theorem dX7_isOfKind_73 : decode cX7_isOfKind 73 = .ok (.invokestatic 86, 3) := by decide +kernel
theorem dX7_isOfKind_76 : decode cX7_isOfKind 76 = .ok (.ifCond .eq 15, 3) := by decide +kernel
theorem dX7_isOfKind_79 : decode cX7_isOfKind 79 = .ok (.aload_n 0, 1) := by decide +kernel
theorem dX7_isOfKind_80 : decode cX7_isOfKind 80 = .ok (.invokestatic 79, 3) := by decide +kernel
theorem dX7_isOfKind_83 : decode cX7_isOfKind 83 = .ok (.iload_n 2, 1) := by decide +kernel
theorem dX7_isOfKind_84 : decode cX7_isOfKind 84 = .ok (.if_icmp .gt 7, 3) := by decide +kernel
theorem dX7_isOfKind_87 : decode cX7_isOfKind 87 = .ok (.iconst 1, 1) := by decide +kernel
theorem dX7_isOfKind_88 : decode cX7_isOfKind 88 = .ok (.goto 4, 3) := by decide +kernel
theorem dX7_isOfKind_91 : decode cX7_isOfKind 91 = .ok (.iconst 0, 1) := by decide +kernel
theorem dX7_isOfKind_92 : decode cX7_isOfKind 92 = .ok (.ireturn, 1) := by decide +kernel
theorem dX7_isOfKind_93 : decode cX7_isOfKind 93 = .ok (.aload_n 0, 1) := by decide +kernel
theorem dX7_isOfKind_94 : decode cX7_isOfKind 94 = .ok (.invokestatic 90, 3) := by decide +kernel
theorem dX7_isOfKind_97 : decode cX7_isOfKind 97 = .ok (.ifCond .eq 15, 3) := by decide +kernel
theorem dX7_isOfKind_100 : decode cX7_isOfKind 100 = .ok (.aload_n 0, 1) := by decide +kernel
theorem dX7_isOfKind_101 : decode cX7_isOfKind 101 = .ok (.invokestatic 79, 3) := by decide +kernel
theorem dX7_isOfKind_104 : decode cX7_isOfKind 104 = .ok (.iload_n 2, 1) := by decide +kernel
theorem dX7_isOfKind_105 : decode cX7_isOfKind 105 = .ok (.if_icmp .gt 7, 3) := by decide +kernel
theorem dX7_isOfKind_108 : decode cX7_isOfKind 108 = .ok (.iconst 1, 1) := by decide +kernel
theorem dX7_isOfKind_109 : decode cX7_isOfKind 109 = .ok (.goto 4, 3) := by decide +kernel
theorem dX7_isOfKind_112 : decode cX7_isOfKind 112 = .ok (.iconst 0, 1) := by decide +kernel
theorem dX7_isOfKind_113 : decode cX7_isOfKind 113 = .ok (.ireturn, 1) := by decide +kernel
theorem dX7_isOfKind_114 : decode cX7_isOfKind 114 = .ok (.aload_n 0, 1) := by decide +kernel
theorem dX7_isOfKind_115 : decode cX7_isOfKind 115 = .ok (.invokestatic 90, 3) := by decide +kernel
theorem dX7_isOfKind_118 : decode cX7_isOfKind 118 = .ok (.ifCond .eq 22, 3) := by decide +kernel
theorem dX7_isOfKind_121 : decode cX7_isOfKind 121 = .ok (.aload_n 0, 1) := by decide +kernel
theorem dX7_isOfKind_122 : decode cX7_isOfKind 122 = .ok (.invokestatic 86, 3) := by decide +kernel
theorem dX7_isOfKind_125 : decode cX7_isOfKind 125 = .ok (.ifCond .eq 15, 3) := by decide +kernel
theorem dX7_isOfKind_128 : decode cX7_isOfKind 128 = .ok (.aload_n 0, 1) := by decide +kernel
theorem dX7_isOfKind_129 : decode cX7_isOfKind 129 = .ok (.invokestatic 79, 3) := by decide +kernel
theorem dX7_isOfKind_132 : decode cX7_isOfKind 132 = .ok (.iload_n 2, 1) := by decide +kernel
theorem dX7_isOfKind_133 : decode cX7_isOfKind 133 = .ok (.if_icmp .gt 7, 3) := by decide +kernel
theorem dX7_isOfKind_136 : decode cX7_isOfKind 136 = .ok (.iconst 1, 1) := by decide +kernel
theorem dX7_isOfKind_137 : decode cX7_isOfKind 137 = .ok (.goto 4, 3) := by decide +kernel
theorem dX7_isOfKind_140 : decode cX7_isOfKind 140 = .ok (.iconst 0, 1) := by decide +kernel
theorem dX7_isOfKind_141 : decode cX7_isOfKind 141 = .ok (.ireturn, 1) := by decide +kernel
theorem dX7_isOfKind_142 : decode cX7_isOfKind 142 = .ok (.aload_n 0, 1) := by decide +kernel
theorem dX7_isOfKind_143 : decode cX7_isOfKind 143 = .ok (.invokestatic 86, 3) := by decide +kernel
theorem dX7_isOfKind_146 : decode cX7_isOfKind 146 = .ok (.ifCond .eq 15, 3) := by decide +kernel
theorem dX7_isOfKind_149 : decode cX7_isOfKind 149 = .ok (.aload_n 0, 1) := by decide +kernel
theorem dX7_isOfKind_150 : decode cX7_isOfKind 150 = .ok (.invokestatic 72, 3) := by decide +kernel
theorem dX7_isOfKind_153 : decode cX7_isOfKind 153 = .ok (.iload_n 2, 1) := by decide +kernel
theorem dX7_isOfKind_154 : decode cX7_isOfKind 154 = .ok (.if_icmp .ne 7, 3) := by decide +kernel
theorem dX7_isOfKind_157 : decode cX7_isOfKind 157 = .ok (.iconst 1, 1) := by decide +kernel
theorem dX7_isOfKind_158 : decode cX7_isOfKind 158 = .ok (.goto 4, 3) := by decide +kernel
theorem dX7_isOfKind_161 : decode cX7_isOfKind 161 = .ok (.iconst 0, 1) := by decide +kernel
theorem dX7_isOfKind_162 : decode cX7_isOfKind 162 = .ok (.ireturn, 1) := by decide +kernel
theorem dX7_isOfKind_163 : decode cX7_isOfKind 163 = .ok (.aload_n 0, 1) := by decide +kernel
theorem dX7_isOfKind_164 : decode cX7_isOfKind 164 = .ok (.invokestatic 72, 3) := by decide +kernel
theorem dX7_isOfKind_167 : decode cX7_isOfKind 167 = .ok (.iload_n 2, 1) := by decide +kernel
theorem dX7_isOfKind_168 : decode cX7_isOfKind 168 = .ok (.if_icmp .gt 7, 3) := by decide +kernel
theorem dX7_isOfKind_171 : decode cX7_isOfKind 171 = .ok (.iconst 1, 1) := by decide +kernel
theorem dX7_isOfKind_172 : decode cX7_isOfKind 172 = .ok (.goto 4, 3) := by decide +kernel
theorem dX7_isOfKind_175 : decode cX7_isOfKind 175 = .ok (.iconst 0, 1) := by decide +kernel
theorem dX7_isOfKind_176 : decode cX7_isOfKind 176 = .ok (.ireturn, 1) := by decide +kernel
theorem dX7_isOfKind_177 : decode cX7_isOfKind 177 = .ok (.aload_n 0, 1) := by decide +kernel
theorem dX7_isOfKind_178 : decode cX7_isOfKind 178 = .ok (.invokestatic 79, 3) := by decide +kernel
theorem dX7_isOfKind_181 : decode cX7_isOfKind 181 = .ok (.iload_n 2, 1) := by decide +kernel
theorem dX7_isOfKind_182 : decode cX7_isOfKind 182 = .ok (.if_icmp .gt 14, 3) := by decide +kernel
theorem dX7_isOfKind_185 : decode cX7_isOfKind 185 = .ok (.aload_n 0, 1) := by decide +kernel
theorem dX7_isOfKind_186 : decode cX7_isOfKind 186 = .ok (.invokestatic 93, 3) := by decide +kernel
theorem dX7_isOfKind_189 : decode cX7_isOfKind 189 = .ok (.ifCond .eq 7, 3) := by decide +kernel
theorem dX7_isOfKind_192 : decode cX7_isOfKind 192 = .ok (.iconst 1, 1) := by decide +kernel
theorem dX7_isOfKind_193 : decode cX7_isOfKind 193 = .ok (.goto 4, 3) := by decide +kernel
theorem dX7_isOfKind_196 : decode cX7_isOfKind 196 = .ok (.iconst 0, 1) := by decide +kernel
theorem dX7_isOfKind_197 : decode cX7_isOfKind 197 = .ok (.ireturn, 1) := by decide +kernel
theorem dX7_firstWay_0 : decode cX7_firstWay 0 = .ok (.bipush 21, 2) := by decide +kernel
theorem dX7_firstWay_2 : decode cX7_firstWay 2 = .ok (.newarray .int, 2) := by decide +kernel
theorem dX7_firstWay_4 : decode cX7_firstWay 4 = .ok (.astore_n 1, 1) := by decide +kernel
theorem dX7_firstWay_5 : decode cX7_firstWay 5 = .ok (.iload_n 0, 1) := by decide +kernel
theorem dX7_firstWay_6 : decode cX7_firstWay 6 = .ok (.ifCond .le 7, 3) := by decide +kernel
theorem dX7_firstWay_9 : decode cX7_firstWay 9 = .ok (.aload_n 1, 1) := by decide +kernel
theorem dX7_firstWay_10 : decode cX7_firstWay 10 = .ok (.iload_n 0, 1) := by decide +kernel
theorem dX7_firstWay_11 : decode cX7_firstWay 11 = .ok (.iconst 1, 1) := by decide +kernel
theorem dX7_firstWay_12 : decode cX7_firstWay 12 = .ok (.iastore, 1) := by decide +kernel
theorem dX7_firstWay_13 : decode cX7_firstWay 13 = .ok (.aload_n 1, 1) := by decide +kernel
theorem dX7_firstWay_14 : decode cX7_firstWay 14 = .ok (.areturn, 1) := by decide +kernel
theorem dX7_isNext_0 : decode cX7_isNext 0 = .ok (.iconst 2, 1) := by decide +kernel
theorem dX7_isNext_1 : decode cX7_isNext 1 = .ok (.istore_n 1, 1) := by decide +kernel
theorem dX7_isNext_2 : decode cX7_isNext 2 = .ok (.iload_n 1, 1) := by decide +kernel
theorem dX7_isNext_3 : decode cX7_isNext 3 = .ok (.bipush 20, 2) := by decide +kernel
theorem dX7_isNext_5 : decode cX7_isNext 5 = .ok (.if_icmp .gt 15, 3) := by decide +kernel
theorem dX7_isNext_8 : decode cX7_isNext 8 = .ok (.aload_n 0, 1) := by decide +kernel
theorem dX7_isNext_9 : decode cX7_isNext 9 = .ok (.iload_n 1, 1) := by decide +kernel
theorem dX7_isNext_10 : decode cX7_isNext 10 = .ok (.iaload, 1) := by decide +kernel
theorem dX7_isNext_11 : decode cX7_isNext 11 = .ok (.ifCond .ne 9, 3) := by decide +kernel
theorem dX7_isNext_14 : decode cX7_isNext 14 = .ok (.iinc 1 1, 3) := by decide +kernel
theorem dX7_isNext_17 : decode cX7_isNext 17 = .ok (.goto (-15), 3) := by decide +kernel
theorem dX7_isNext_20 : decode cX7_isNext 20 = .ok (.iload_n 1, 1) := by decide +kernel
theorem dX7_isNext_21 : decode cX7_isNext 21 = .ok (.bipush 20, 2) := by decide +kernel
theorem dX7_isNext_23 : decode cX7_isNext 23 = .ok (.if_icmp .le 5, 3) := by decide +kernel
theorem dX7_isNext_26 : decode cX7_isNext 26 = .ok (.iconst 0, 1) := by decide +kernel
theorem dX7_isNext_27 : decode cX7_isNext 27 = .ok (.ireturn, 1) := by decide +kernel
theorem dX7_isNext_28 : decode cX7_isNext 28 = .ok (.iload_n 1, 1) := by decide +kernel
theorem dX7_isNext_29 : decode cX7_isNext 29 = .ok (.aload_n 0, 1) := by decide +kernel
theorem dX7_isNext_30 : decode cX7_isNext 30 = .ok (.iconst 1, 1) := by decide +kernel
theorem dX7_isNext_31 : decode cX7_isNext 31 = .ok (.iaload, 1) := by decide +kernel
theorem dX7_isNext_32 : decode cX7_isNext 32 = .ok (.iadd, 1) := by decide +kernel
theorem dX7_isNext_33 : decode cX7_isNext 33 = .ok (.istore_n 2, 1) := by decide +kernel
theorem dX7_isNext_34 : decode cX7_isNext 34 = .ok (.aload_n 0, 1) := by decide +kernel
theorem dX7_isNext_35 : decode cX7_isNext 35 = .ok (.iconst 1, 1) := by decide +kernel
theorem dX7_isNext_36 : decode cX7_isNext 36 = .ok (.iconst 0, 1) := by decide +kernel
theorem dX7_isNext_37 : decode cX7_isNext 37 = .ok (.iastore, 1) := by decide +kernel
theorem dX7_isNext_38 : decode cX7_isNext 38 = .ok (.aload_n 0, 1) := by decide +kernel
theorem dX7_isNext_39 : decode cX7_isNext 39 = .ok (.iload_n 1, 1) := by decide +kernel
theorem dX7_isNext_40 : decode cX7_isNext 40 = .ok (.dup2, 1) := by decide +kernel
theorem dX7_isNext_41 : decode cX7_isNext 41 = .ok (.iaload, 1) := by decide +kernel
theorem dX7_isNext_42 : decode cX7_isNext 42 = .ok (.iconst 1, 1) := by decide +kernel
theorem dX7_isNext_43 : decode cX7_isNext 43 = .ok (.isub, 1) := by decide +kernel
theorem dX7_isNext_44 : decode cX7_isNext 44 = .ok (.iastore, 1) := by decide +kernel
theorem dX7_isNext_45 : decode cX7_isNext 45 = .ok (.iload_n 1, 1) := by decide +kernel
theorem dX7_isNext_46 : decode cX7_isNext 46 = .ok (.iconst 1, 1) := by decide +kernel
theorem dX7_isNext_47 : decode cX7_isNext 47 = .ok (.isub, 1) := by decide +kernel
theorem dX7_isNext_48 : decode cX7_isNext 48 = .ok (.istore_n 3, 1) := by decide +kernel
theorem dX7_isNext_49 : decode cX7_isNext 49 = .ok (.iload_n 3, 1) := by decide +kernel
theorem dX7_isNext_50 : decode cX7_isNext 50 = .ok (.ifCond .le 22, 3) := by decide +kernel
theorem dX7_isNext_53 : decode cX7_isNext 53 = .ok (.aload_n 0, 1) := by decide +kernel
theorem dX7_isNext_54 : decode cX7_isNext 54 = .ok (.iload_n 3, 1) := by decide +kernel
theorem dX7_isNext_55 : decode cX7_isNext 55 = .ok (.dup2, 1) := by decide +kernel
theorem dX7_isNext_56 : decode cX7_isNext 56 = .ok (.iaload, 1) := by decide +kernel
theorem dX7_isNext_57 : decode cX7_isNext 57 = .ok (.iload_n 2, 1) := by decide +kernel
theorem dX7_isNext_58 : decode cX7_isNext 58 = .ok (.iload_n 3, 1) := by decide +kernel
theorem dX7_isNext_59 : decode cX7_isNext 59 = .ok (.idiv, 1) := by decide +kernel
theorem dX7_isNext_60 : decode cX7_isNext 60 = .ok (.iadd, 1) := by decide +kernel
theorem dX7_isNext_61 : decode cX7_isNext 61 = .ok (.iastore, 1) := by decide +kernel
theorem dX7_isNext_62 : decode cX7_isNext 62 = .ok (.iload_n 2, 1) := by decide +kernel
theorem dX7_isNext_63 : decode cX7_isNext 63 = .ok (.iload_n 3, 1) := by decide +kernel
theorem dX7_isNext_64 : decode cX7_isNext 64 = .ok (.irem, 1) := by decide +kernel
theorem dX7_isNext_65 : decode cX7_isNext 65 = .ok (.istore_n 2, 1) := by decide +kernel
theorem dX7_isNext_66 : decode cX7_isNext 66 = .ok (.iinc 3 (-1), 3) := by decide +kernel
theorem dX7_isNext_69 : decode cX7_isNext 69 = .ok (.goto (-20), 3) := by decide +kernel
theorem dX7_isNext_72 : decode cX7_isNext 72 = .ok (.iconst 1, 1) := by decide +kernel
theorem dX7_isNext_73 : decode cX7_isNext 73 = .ok (.ireturn, 1) := by decide +kernel
theorem dX7_walked_0 : decode cX7_walked 0 = .ok (.iload_n 1, 1) := by decide +kernel
theorem dX7_walked_1 : decode cX7_walked 1 = .ok (.invokestatic 96, 3) := by decide +kernel
theorem dX7_walked_4 : decode cX7_walked 4 = .ok (.astore_n 3, 1) := by decide +kernel
theorem dX7_walked_5 : decode cX7_walked 5 = .ok (.iconst 0, 1) := by decide +kernel
theorem dX7_walked_6 : decode cX7_walked 6 = .ok (.istore 4, 2) := by decide +kernel
theorem dX7_walked_8 : decode cX7_walked 8 = .ok (.iload 4, 2) := by decide +kernel
theorem dX7_walked_10 : decode cX7_walked 10 = .ok (.aload_n 3, 1) := by decide +kernel
theorem dX7_walked_11 : decode cX7_walked 11 = .ok (.iload_n 0, 1) := by decide +kernel
theorem dX7_walked_12 : decode cX7_walked 12 = .ok (.iload_n 2, 1) := by decide +kernel
theorem dX7_walked_13 : decode cX7_walked 13 = .ok (.invokestatic 100, 3) := by decide +kernel
theorem dX7_walked_16 : decode cX7_walked 16 = .ok (.invokestatic 43, 3) := by decide +kernel
theorem dX7_walked_19 : decode cX7_walked 19 = .ok (.iadd, 1) := by decide +kernel
theorem dX7_walked_20 : decode cX7_walked 20 = .ok (.istore 4, 2) := by decide +kernel
theorem dX7_walked_22 : decode cX7_walked 22 = .ok (.aload_n 3, 1) := by decide +kernel
theorem dX7_walked_23 : decode cX7_walked 23 = .ok (.invokestatic 104, 3) := by decide +kernel
theorem dX7_walked_26 : decode cX7_walked 26 = .ok (.ifCond .ne (-18), 3) := by decide +kernel
theorem dX7_walked_29 : decode cX7_walked 29 = .ok (.iload 4, 2) := by decide +kernel
theorem dX7_walked_31 : decode cX7_walked 31 = .ok (.ireturn, 1) := by decide +kernel
theorem dX7_know_0 : decode cX7_know 0 = .ok (.aload_n 0, 1) := by decide +kernel
theorem dX7_know_1 : decode cX7_know 1 = .ok (.iload_n 1, 1) := by decide +kernel
theorem dX7_know_2 : decode cX7_know 2 = .ok (.iconst 0, 1) := by decide +kernel
theorem dX7_know_3 : decode cX7_know 3 = .ok (.iconst 2, 1) := by decide +kernel
theorem dX7_know_4 : decode cX7_know 4 = .ok (.invokestatic 31, 3) := by decide +kernel
theorem dX7_know_7 : decode cX7_know 7 = .ok (.iload_n 2, 1) := by decide +kernel
theorem dX7_know_8 : decode cX7_know 8 = .ok (.iload_n 3, 1) := by decide +kernel
theorem dX7_know_9 : decode cX7_know 9 = .ok (.iload 4, 2) := by decide +kernel
theorem dX7_know_11 : decode cX7_know 11 = .ok (.invokestatic 107, 3) := by decide +kernel
theorem dX7_know_14 : decode cX7_know 14 = .ok (.invokevirtual 110, 3) := by decide +kernel
theorem dX7_know_17 : decode cX7_know 17 = .ok (.ifCond .eq 5, 3) := by decide +kernel
theorem dX7_know_20 : decode cX7_know 20 = .ok (.iconst 0, 1) := by decide +kernel
theorem dX7_know_21 : decode cX7_know 21 = .ok (.ireturn, 1) := by decide +kernel
theorem dX7_know_22 : decode cX7_know 22 = .ok (.aload_n 0, 1) := by decide +kernel
theorem dX7_know_23 : decode cX7_know 23 = .ok (.aload_n 0, 1) := by decide +kernel
theorem dX7_know_24 : decode cX7_know 24 = .ok (.iload_n 1, 1) := by decide +kernel
theorem dX7_know_25 : decode cX7_know 25 = .ok (.iload_n 2, 1) := by decide +kernel
theorem dX7_know_26 : decode cX7_know 26 = .ok (.iload_n 3, 1) := by decide +kernel
theorem dX7_know_27 : decode cX7_know 27 = .ok (.iload 4, 2) := by decide +kernel
theorem dX7_know_29 : decode cX7_know 29 = .ok (.invokevirtual 114, 3) := by decide +kernel
theorem dX7_know_32 : decode cX7_know 32 = .ok (.invokevirtual 117, 3) := by decide +kernel
theorem dX7_know_35 : decode cX7_know 35 = .ok (.ireturn, 1) := by decide +kernel
theorem dX7_few_0 : decode cX7_few 0 = .ok (.aload_n 0, 1) := by decide +kernel
theorem dX7_few_1 : decode cX7_few 1 = .ok (.iload_n 1, 1) := by decide +kernel
theorem dX7_few_2 : decode cX7_few 2 = .ok (.iconst 0, 1) := by decide +kernel
theorem dX7_few_3 : decode cX7_few 3 = .ok (.iconst 2, 1) := by decide +kernel
theorem dX7_few_4 : decode cX7_few 4 = .ok (.invokestatic 31, 3) := by decide +kernel
theorem dX7_few_7 : decode cX7_few 7 = .ok (.iload_n 2, 1) := by decide +kernel
theorem dX7_few_8 : decode cX7_few 8 = .ok (.iconst 0, 1) := by decide +kernel
theorem dX7_few_9 : decode cX7_few 9 = .ok (.bipush 20, 2) := by decide +kernel
theorem dX7_few_11 : decode cX7_few 11 = .ok (.invokestatic 31, 3) := by decide +kernel
theorem dX7_few_14 : decode cX7_few 14 = .ok (.ifCond .ne 13, 3) := by decide +kernel
theorem dX7_few_17 : decode cX7_few 17 = .ok (.iload_n 3, 1) := by decide +kernel
theorem dX7_few_18 : decode cX7_few 18 = .ok (.iconst 0, 1) := by decide +kernel
theorem dX7_few_19 : decode cX7_few 19 = .ok (.bipush 20, 2) := by decide +kernel
theorem dX7_few_21 : decode cX7_few 21 = .ok (.invokestatic 31, 3) := by decide +kernel
theorem dX7_few_24 : decode cX7_few 24 = .ok (.ifCond .eq 7, 3) := by decide +kernel
theorem dX7_few_27 : decode cX7_few 27 = .ok (.iconst 1, 1) := by decide +kernel
theorem dX7_few_28 : decode cX7_few 28 = .ok (.goto 4, 3) := by decide +kernel
theorem dX7_few_31 : decode cX7_few 31 = .ok (.iconst 0, 1) := by decide +kernel
theorem dX7_few_32 : decode cX7_few 32 = .ok (.invokevirtual 110, 3) := by decide +kernel
theorem dX7_few_35 : decode cX7_few 35 = .ok (.ifCond .eq 5, 3) := by decide +kernel
theorem dX7_few_38 : decode cX7_few 38 = .ok (.iconst 0, 1) := by decide +kernel
theorem dX7_few_39 : decode cX7_few 39 = .ok (.ireturn, 1) := by decide +kernel
theorem dX7_few_40 : decode cX7_few 40 = .ok (.iconst 0, 1) := by decide +kernel
theorem dX7_few_41 : decode cX7_few 41 = .ok (.istore 4, 2) := by decide +kernel
theorem dX7_few_43 : decode cX7_few 43 = .ok (.iconst 0, 1) := by decide +kernel
theorem dX7_few_44 : decode cX7_few 44 = .ok (.istore 5, 2) := by decide +kernel
theorem dX7_few_46 : decode cX7_few 46 = .ok (.iload 5, 2) := by decide +kernel
theorem dX7_few_48 : decode cX7_few 48 = .ok (.iload_n 3, 1) := by decide +kernel
theorem dX7_few_49 : decode cX7_few 49 = .ok (.if_icmp .gt 23, 3) := by decide +kernel
theorem dX7_few_52 : decode cX7_few 52 = .ok (.iload 4, 2) := by decide +kernel
theorem dX7_few_54 : decode cX7_few 54 = .ok (.aload_n 0, 1) := by decide +kernel
theorem dX7_few_55 : decode cX7_few 55 = .ok (.iload_n 1, 1) := by decide +kernel
theorem dX7_few_56 : decode cX7_few 56 = .ok (.iconst 1, 1) := by decide +kernel
theorem dX7_few_57 : decode cX7_few 57 = .ok (.iload_n 2, 1) := by decide +kernel
theorem dX7_few_58 : decode cX7_few 58 = .ok (.iload 5, 2) := by decide +kernel
theorem dX7_few_60 : decode cX7_few 60 = .ok (.invokevirtual 114, 3) := by decide +kernel
theorem dX7_few_63 : decode cX7_few 63 = .ok (.iadd, 1) := by decide +kernel
theorem dX7_few_64 : decode cX7_few 64 = .ok (.istore 4, 2) := by decide +kernel
theorem dX7_few_66 : decode cX7_few 66 = .ok (.iinc 5 1, 3) := by decide +kernel
theorem dX7_few_69 : decode cX7_few 69 = .ok (.goto (-23), 3) := by decide +kernel
theorem dX7_few_72 : decode cX7_few 72 = .ok (.aload_n 0, 1) := by decide +kernel
theorem dX7_few_73 : decode cX7_few 73 = .ok (.iload 4, 2) := by decide +kernel
theorem dX7_few_75 : decode cX7_few 75 = .ok (.invokevirtual 117, 3) := by decide +kernel
theorem dX7_few_78 : decode cX7_few 78 = .ok (.ireturn, 1) := by decide +kernel
theorem dX7_surplus_0 : decode cX7_surplus 0 = .ok (.aload_n 0, 1) := by decide +kernel
theorem dX7_surplus_1 : decode cX7_surplus 1 = .ok (.iload_n 1, 1) := by decide +kernel
theorem dX7_surplus_2 : decode cX7_surplus 2 = .ok (.iconst 0, 1) := by decide +kernel
theorem dX7_surplus_3 : decode cX7_surplus 3 = .ok (.iconst 2, 1) := by decide +kernel
theorem dX7_surplus_4 : decode cX7_surplus 4 = .ok (.invokestatic 31, 3) := by decide +kernel
theorem dX7_surplus_7 : decode cX7_surplus 7 = .ok (.iload_n 2, 1) := by decide +kernel
theorem dX7_surplus_8 : decode cX7_surplus 8 = .ok (.iconst 0, 1) := by decide +kernel
theorem dX7_surplus_9 : decode cX7_surplus 9 = .ok (.bipush 20, 2) := by decide +kernel
theorem dX7_surplus_11 : decode cX7_surplus 11 = .ok (.invokestatic 31, 3) := by decide +kernel
theorem dX7_surplus_14 : decode cX7_surplus 14 = .ok (.invokevirtual 110, 3) := by decide +kernel
theorem dX7_surplus_17 : decode cX7_surplus 17 = .ok (.ifCond .eq 5, 3) := by decide +kernel
theorem dX7_surplus_20 : decode cX7_surplus 20 = .ok (.iconst 0, 1) := by decide +kernel
theorem dX7_surplus_21 : decode cX7_surplus 21 = .ok (.ireturn, 1) := by decide +kernel
theorem dX7_surplus_22 : decode cX7_surplus 22 = .ok (.iconst 0, 1) := by decide +kernel
theorem dX7_surplus_23 : decode cX7_surplus 23 = .ok (.istore_n 3, 1) := by decide +kernel
theorem dX7_surplus_24 : decode cX7_surplus 24 = .ok (.iconst 0, 1) := by decide +kernel
theorem dX7_surplus_25 : decode cX7_surplus 25 = .ok (.istore 4, 2) := by decide +kernel
theorem dX7_surplus_27 : decode cX7_surplus 27 = .ok (.iload 4, 2) := by decide +kernel
theorem dX7_surplus_29 : decode cX7_surplus 29 = .ok (.iload_n 2, 1) := by decide +kernel
theorem dX7_surplus_30 : decode cX7_surplus 30 = .ok (.if_icmp .gt 34, 3) := by decide +kernel
theorem dX7_surplus_33 : decode cX7_surplus 33 = .ok (.iload_n 3, 1) := by decide +kernel
theorem dX7_surplus_34 : decode cX7_surplus 34 = .ok (.iload 4, 2) := by decide +kernel
theorem dX7_surplus_36 : decode cX7_surplus 36 = .ok (.iconst 2, 1) := by decide +kernel
theorem dX7_surplus_37 : decode cX7_surplus 37 = .ok (.irem, 1) := by decide +kernel
theorem dX7_surplus_38 : decode cX7_surplus 38 = .ok (.ifCond .ne 7, 3) := by decide +kernel
theorem dX7_surplus_41 : decode cX7_surplus 41 = .ok (.iconst 1, 1) := by decide +kernel
theorem dX7_surplus_42 : decode cX7_surplus 42 = .ok (.goto 4, 3) := by decide +kernel
theorem dX7_surplus_45 : decode cX7_surplus 45 = .ok (.iconst (-1), 1) := by decide +kernel
theorem dX7_surplus_46 : decode cX7_surplus 46 = .ok (.aload_n 0, 1) := by decide +kernel
theorem dX7_surplus_47 : decode cX7_surplus 47 = .ok (.iload_n 1, 1) := by decide +kernel
theorem dX7_surplus_48 : decode cX7_surplus 48 = .ok (.iconst 5, 1) := by decide +kernel
theorem dX7_surplus_49 : decode cX7_surplus 49 = .ok (.iload_n 2, 1) := by decide +kernel
theorem dX7_surplus_50 : decode cX7_surplus 50 = .ok (.iload 4, 2) := by decide +kernel
theorem dX7_surplus_52 : decode cX7_surplus 52 = .ok (.invokevirtual 114, 3) := by decide +kernel
theorem dX7_surplus_55 : decode cX7_surplus 55 = .ok (.imul, 1) := by decide +kernel
theorem dX7_surplus_56 : decode cX7_surplus 56 = .ok (.iadd, 1) := by decide +kernel
theorem dX7_surplus_57 : decode cX7_surplus 57 = .ok (.istore_n 3, 1) := by decide +kernel
theorem dX7_surplus_58 : decode cX7_surplus 58 = .ok (.iinc 4 1, 3) := by decide +kernel
theorem dX7_surplus_61 : decode cX7_surplus 61 = .ok (.goto (-34), 3) := by decide +kernel
theorem dX7_surplus_64 : decode cX7_surplus 64 = .ok (.aload_n 0, 1) := by decide +kernel
theorem dX7_surplus_65 : decode cX7_surplus 65 = .ok (.iload_n 3, 1) := by decide +kernel
theorem dX7_surplus_66 : decode cX7_surplus 66 = .ok (.invokevirtual 117, 3) := by decide +kernel
theorem dX7_surplus_69 : decode cX7_surplus 69 = .ok (.ireturn, 1) := by decide +kernel
theorem dX7_place_0 : decode cX7_place 0 = .ok (.aload_n 0, 1) := by decide +kernel
theorem dX7_place_1 : decode cX7_place 1 = .ok (.iload_n 1, 1) := by decide +kernel
theorem dX7_place_2 : decode cX7_place 2 = .ok (.iconst 0, 1) := by decide +kernel
theorem dX7_place_3 : decode cX7_place 3 = .ok (.iconst 2, 1) := by decide +kernel
theorem dX7_place_4 : decode cX7_place 4 = .ok (.invokestatic 31, 3) := by decide +kernel
theorem dX7_place_7 : decode cX7_place 7 = .ok (.ifCond .ne 12, 3) := by decide +kernel
theorem dX7_place_10 : decode cX7_place 10 = .ok (.iload_n 2, 1) := by decide +kernel
theorem dX7_place_11 : decode cX7_place 11 = .ok (.iconst 0, 1) := by decide +kernel
theorem dX7_place_12 : decode cX7_place 12 = .ok (.iconst 1, 1) := by decide +kernel
theorem dX7_place_13 : decode cX7_place 13 = .ok (.invokestatic 31, 3) := by decide +kernel
theorem dX7_place_16 : decode cX7_place 16 = .ok (.ifCond .eq 7, 3) := by decide +kernel
theorem dX7_place_19 : decode cX7_place 19 = .ok (.iconst 1, 1) := by decide +kernel
theorem dX7_place_20 : decode cX7_place 20 = .ok (.goto 4, 3) := by decide +kernel
theorem dX7_place_23 : decode cX7_place 23 = .ok (.iconst 0, 1) := by decide +kernel
theorem dX7_place_24 : decode cX7_place 24 = .ok (.iconst 0, 1) := by decide +kernel
theorem dX7_place_25 : decode cX7_place 25 = .ok (.invokevirtual 110, 3) := by decide +kernel
theorem dX7_place_28 : decode cX7_place 28 = .ok (.ifCond .eq 5, 3) := by decide +kernel
theorem dX7_place_31 : decode cX7_place 31 = .ok (.iconst 0, 1) := by decide +kernel
theorem dX7_place_32 : decode cX7_place 32 = .ok (.ireturn, 1) := by decide +kernel
theorem dX7_place_33 : decode cX7_place 33 = .ok (.aload_n 0, 1) := by decide +kernel
theorem dX7_place_34 : decode cX7_place 34 = .ok (.getfield 17, 3) := by decide +kernel
theorem dX7_place_37 : decode cX7_place 37 = .ok (.iload_n 2, 1) := by decide +kernel
theorem dX7_place_38 : decode cX7_place 38 = .ok (.aaload, 1) := by decide +kernel
theorem dX7_place_39 : decode cX7_place 39 = .ok (.invokestatic 121, 3) := by decide +kernel
theorem dX7_place_42 : decode cX7_place 42 = .ok (.istore_n 3, 1) := by decide +kernel
theorem dX7_place_43 : decode cX7_place 43 = .ok (.iload_n 3, 1) := by decide +kernel
theorem dX7_place_44 : decode cX7_place 44 = .ok (.istore 4, 2) := by decide +kernel
theorem dX7_place_46 : decode cX7_place 46 = .ok (.iconst 0, 1) := by decide +kernel
theorem dX7_place_47 : decode cX7_place 47 = .ok (.istore 5, 2) := by decide +kernel
theorem dX7_place_49 : decode cX7_place 49 = .ok (.bipush 20, 2) := by decide +kernel
theorem dX7_place_51 : decode cX7_place 51 = .ok (.istore 6, 2) := by decide +kernel
theorem dX7_place_53 : decode cX7_place 53 = .ok (.iload 6, 2) := by decide +kernel
theorem dX7_place_55 : decode cX7_place 55 = .ok (.ifCond .le 68, 3) := by decide +kernel
theorem dX7_place_58 : decode cX7_place 58 = .ok (.aload_n 0, 1) := by decide +kernel
theorem dX7_place_59 : decode cX7_place 59 = .ok (.getfield 17, 3) := by decide +kernel
theorem dX7_place_62 : decode cX7_place 62 = .ok (.iload_n 2, 1) := by decide +kernel
theorem dX7_place_63 : decode cX7_place 63 = .ok (.aaload, 1) := by decide +kernel
theorem dX7_place_64 : decode cX7_place 64 = .ok (.iload 6, 2) := by decide +kernel
theorem dX7_place_66 : decode cX7_place 66 = .ok (.iaload, 1) := by decide +kernel
theorem dX7_place_67 : decode cX7_place 67 = .ok (.istore 7, 2) := by decide +kernel
theorem dX7_place_69 : decode cX7_place 69 = .ok (.iload 7, 2) := by decide +kernel
theorem dX7_place_71 : decode cX7_place 71 = .ok (.ifCond .le 46, 3) := by decide +kernel
theorem dX7_place_74 : decode cX7_place 74 = .ok (.iload 5, 2) := by decide +kernel
theorem dX7_place_76 : decode cX7_place 76 = .ok (.aload_n 0, 1) := by decide +kernel
theorem dX7_place_77 : decode cX7_place 77 = .ok (.iload_n 1, 1) := by decide +kernel
theorem dX7_place_78 : decode cX7_place 78 = .ok (.iconst 0, 1) := by decide +kernel
theorem dX7_place_79 : decode cX7_place 79 = .ok (.iload_n 3, 1) := by decide +kernel
theorem dX7_place_80 : decode cX7_place 80 = .ok (.iload 4, 2) := by decide +kernel
theorem dX7_place_82 : decode cX7_place 82 = .ok (.invokevirtual 114, 3) := by decide +kernel
theorem dX7_place_85 : decode cX7_place 85 = .ok (.iadd, 1) := by decide +kernel
theorem dX7_place_86 : decode cX7_place 86 = .ok (.istore 5, 2) := by decide +kernel
theorem dX7_place_88 : decode cX7_place 88 = .ok (.iload 5, 2) := by decide +kernel
theorem dX7_place_90 : decode cX7_place 90 = .ok (.aload_n 0, 1) := by decide +kernel
theorem dX7_place_91 : decode cX7_place 91 = .ok (.iload_n 1, 1) := by decide +kernel
theorem dX7_place_92 : decode cX7_place 92 = .ok (.iconst 0, 1) := by decide +kernel
theorem dX7_place_93 : decode cX7_place 93 = .ok (.iload_n 3, 1) := by decide +kernel
theorem dX7_place_94 : decode cX7_place 94 = .ok (.iload 6, 2) := by decide +kernel
theorem dX7_place_96 : decode cX7_place 96 = .ok (.invokevirtual 114, 3) := by decide +kernel
theorem dX7_place_99 : decode cX7_place 99 = .ok (.isub, 1) := by decide +kernel
theorem dX7_place_100 : decode cX7_place 100 = .ok (.istore 5, 2) := by decide +kernel
theorem dX7_place_102 : decode cX7_place 102 = .ok (.iload_n 3, 1) := by decide +kernel
theorem dX7_place_103 : decode cX7_place 103 = .ok (.iload 6, 2) := by decide +kernel
theorem dX7_place_105 : decode cX7_place 105 = .ok (.isub, 1) := by decide +kernel
theorem dX7_place_106 : decode cX7_place 106 = .ok (.istore_n 3, 1) := by decide +kernel
theorem dX7_place_107 : decode cX7_place 107 = .ok (.iload 6, 2) := by decide +kernel
theorem dX7_place_109 : decode cX7_place 109 = .ok (.istore 4, 2) := by decide +kernel
theorem dX7_place_111 : decode cX7_place 111 = .ok (.iinc 7 (-1), 3) := by decide +kernel
theorem dX7_place_114 : decode cX7_place 114 = .ok (.goto (-45), 3) := by decide +kernel
theorem dX7_place_117 : decode cX7_place 117 = .ok (.iinc 6 (-1), 3) := by decide +kernel
theorem dX7_place_120 : decode cX7_place 120 = .ok (.goto (-67), 3) := by decide +kernel
theorem dX7_place_123 : decode cX7_place 123 = .ok (.aload_n 0, 1) := by decide +kernel
theorem dX7_place_124 : decode cX7_place 124 = .ok (.iload 5, 2) := by decide +kernel
theorem dX7_place_126 : decode cX7_place 126 = .ok (.invokevirtual 117, 3) := by decide +kernel
theorem dX7_place_129 : decode cX7_place 129 = .ok (.ireturn, 1) := by decide +kernel
theorem dX7_learn_0 : decode cX7_learn 0 = .ok (.aload_n 0, 1) := by decide +kernel
theorem dX7_learn_1 : decode cX7_learn 1 = .ok (.iload_n 1, 1) := by decide +kernel
theorem dX7_learn_2 : decode cX7_learn 2 = .ok (.iconst 0, 1) := by decide +kernel
theorem dX7_learn_3 : decode cX7_learn 3 = .ok (.iconst 2, 1) := by decide +kernel
theorem dX7_learn_4 : decode cX7_learn 4 = .ok (.invokestatic 31, 3) := by decide +kernel
theorem dX7_learn_7 : decode cX7_learn 7 = .ok (.iload_n 2, 1) := by decide +kernel
theorem dX7_learn_8 : decode cX7_learn 8 = .ok (.iload_n 3, 1) := by decide +kernel
theorem dX7_learn_9 : decode cX7_learn 9 = .ok (.iload 4, 2) := by decide +kernel
theorem dX7_learn_11 : decode cX7_learn 11 = .ok (.invokestatic 107, 3) := by decide +kernel
theorem dX7_learn_14 : decode cX7_learn 14 = .ok (.invokevirtual 110, 3) := by decide +kernel
theorem dX7_learn_17 : decode cX7_learn 17 = .ok (.ifCond .eq 5, 3) := by decide +kernel
theorem dX7_learn_20 : decode cX7_learn 20 = .ok (.iconst 0, 1) := by decide +kernel
theorem dX7_learn_21 : decode cX7_learn 21 = .ok (.ireturn, 1) := by decide +kernel
theorem dX7_learn_22 : decode cX7_learn 22 = .ok (.iload_n 3, 1) := by decide +kernel
theorem dX7_learn_23 : decode cX7_learn 23 = .ok (.iload 4, 2) := by decide +kernel
theorem dX7_learn_25 : decode cX7_learn 25 = .ok (.invokestatic 35, 3) := by decide +kernel
theorem dX7_learn_28 : decode cX7_learn 28 = .ok (.ifCond .eq 8, 3) := by decide +kernel
theorem dX7_learn_31 : decode cX7_learn 31 = .ok (.aload_n 0, 1) := by decide +kernel
theorem dX7_learn_32 : decode cX7_learn 32 = .ok (.invokevirtual 124, 3) := by decide +kernel
theorem dX7_learn_35 : decode cX7_learn 35 = .ok (.ireturn, 1) := by decide +kernel
theorem dX7_learn_36 : decode cX7_learn 36 = .ok (.aload_n 0, 1) := by decide +kernel
theorem dX7_learn_37 : decode cX7_learn 37 = .ok (.iload_n 1, 1) := by decide +kernel
theorem dX7_learn_38 : decode cX7_learn 38 = .ok (.iload_n 2, 1) := by decide +kernel
theorem dX7_learn_39 : decode cX7_learn 39 = .ok (.iload_n 3, 1) := by decide +kernel
theorem dX7_learn_40 : decode cX7_learn 40 = .ok (.iload 4, 2) := by decide +kernel
theorem dX7_learn_42 : decode cX7_learn 42 = .ok (.invokevirtual 47, 3) := by decide +kernel
theorem dX7_learn_45 : decode cX7_learn 45 = .ok (.ifCond .ge 7, 3) := by decide +kernel
theorem dX7_learn_48 : decode cX7_learn 48 = .ok (.iconst 1, 1) := by decide +kernel
theorem dX7_learn_49 : decode cX7_learn 49 = .ok (.goto 4, 3) := by decide +kernel
theorem dX7_learn_52 : decode cX7_learn 52 = .ok (.iconst 0, 1) := by decide +kernel
theorem dX7_learn_53 : decode cX7_learn 53 = .ok (.istore 5, 2) := by decide +kernel
theorem dX7_learn_55 : decode cX7_learn 55 = .ok (.iload 5, 2) := by decide +kernel
theorem dX7_learn_57 : decode cX7_learn 57 = .ok (.ifCond .eq 24, 3) := by decide +kernel
theorem dX7_learn_60 : decode cX7_learn 60 = .ok (.aload_n 0, 1) := by decide +kernel
theorem dX7_learn_61 : decode cX7_learn 61 = .ok (.getfield 11, 3) := by decide +kernel
theorem dX7_learn_64 : decode cX7_learn 64 = .ok (.iload_n 1, 1) := by decide +kernel
theorem dX7_learn_65 : decode cX7_learn 65 = .ok (.aaload, 1) := by decide +kernel
theorem dX7_learn_66 : decode cX7_learn 66 = .ok (.iload_n 2, 1) := by decide +kernel
theorem dX7_learn_67 : decode cX7_learn 67 = .ok (.iload_n 3, 1) := by decide +kernel
theorem dX7_learn_68 : decode cX7_learn 68 = .ok (.iload 4, 2) := by decide +kernel
theorem dX7_learn_70 : decode cX7_learn 70 = .ok (.invokestatic 39, 3) := by decide +kernel
theorem dX7_learn_73 : decode cX7_learn 73 = .ok (.iload_n 2, 1) := by decide +kernel
theorem dX7_learn_74 : decode cX7_learn 74 = .ok (.iload_n 3, 1) := by decide +kernel
theorem dX7_learn_75 : decode cX7_learn 75 = .ok (.iload 4, 2) := by decide +kernel
theorem dX7_learn_77 : decode cX7_learn 77 = .ok (.invokestatic 128, 3) := by decide +kernel
theorem dX7_learn_80 : decode cX7_learn 80 = .ok (.iastore, 1) := by decide +kernel
theorem dX7_learn_81 : decode cX7_learn 81 = .ok (.aload_n 0, 1) := by decide +kernel
theorem dX7_learn_82 : decode cX7_learn 82 = .ok (.iload 5, 2) := by decide +kernel
theorem dX7_learn_84 : decode cX7_learn 84 = .ok (.invokestatic 43, 3) := by decide +kernel
theorem dX7_learn_87 : decode cX7_learn 87 = .ok (.invokevirtual 117, 3) := by decide +kernel
theorem dX7_learn_90 : decode cX7_learn 90 = .ok (.ireturn, 1) := by decide +kernel
theorem dX7_kept_0 : decode cX7_kept 0 = .ok (.aload_n 0, 1) := by decide +kernel
theorem dX7_kept_1 : decode cX7_kept 1 = .ok (.getfield 11, 3) := by decide +kernel
theorem dX7_kept_4 : decode cX7_kept 4 = .ok (.iload_n 1, 1) := by decide +kernel
theorem dX7_kept_5 : decode cX7_kept 5 = .ok (.aaload, 1) := by decide +kernel
theorem dX7_kept_6 : decode cX7_kept 6 = .ok (.iload_n 2, 1) := by decide +kernel
theorem dX7_kept_7 : decode cX7_kept 7 = .ok (.iload_n 3, 1) := by decide +kernel
theorem dX7_kept_8 : decode cX7_kept 8 = .ok (.iload 4, 2) := by decide +kernel
theorem dX7_kept_10 : decode cX7_kept 10 = .ok (.invokestatic 39, 3) := by decide +kernel
theorem dX7_kept_13 : decode cX7_kept 13 = .ok (.iaload, 1) := by decide +kernel
theorem dX7_kept_14 : decode cX7_kept 14 = .ok (.ireturn, 1) := by decide +kernel
theorem dX7_relearn_0 : decode cX7_relearn 0 = .ok (.aload_n 0, 1) := by decide +kernel
theorem dX7_relearn_1 : decode cX7_relearn 1 = .ok (.iload_n 1, 1) := by decide +kernel
theorem dX7_relearn_2 : decode cX7_relearn 2 = .ok (.iconst 0, 1) := by decide +kernel
theorem dX7_relearn_3 : decode cX7_relearn 3 = .ok (.iconst 2, 1) := by decide +kernel
theorem dX7_relearn_4 : decode cX7_relearn 4 = .ok (.invokestatic 31, 3) := by decide +kernel
theorem dX7_relearn_7 : decode cX7_relearn 7 = .ok (.iload_n 2, 1) := by decide +kernel
theorem dX7_relearn_8 : decode cX7_relearn 8 = .ok (.iload_n 3, 1) := by decide +kernel
theorem dX7_relearn_9 : decode cX7_relearn 9 = .ok (.iload 4, 2) := by decide +kernel
theorem dX7_relearn_11 : decode cX7_relearn 11 = .ok (.invokestatic 107, 3) := by decide +kernel
theorem dX7_relearn_14 : decode cX7_relearn 14 = .ok (.invokevirtual 110, 3) := by decide +kernel
theorem dX7_relearn_17 : decode cX7_relearn 17 = .ok (.ifCond .eq 5, 3) := by decide +kernel
theorem dX7_relearn_20 : decode cX7_relearn 20 = .ok (.iconst 0, 1) := by decide +kernel
theorem dX7_relearn_21 : decode cX7_relearn 21 = .ok (.ireturn, 1) := by decide +kernel
theorem dX7_relearn_22 : decode cX7_relearn 22 = .ok (.aload_n 0, 1) := by decide +kernel
theorem dX7_relearn_23 : decode cX7_relearn 23 = .ok (.iload_n 1, 1) := by decide +kernel
theorem dX7_relearn_24 : decode cX7_relearn 24 = .ok (.iload_n 2, 1) := by decide +kernel
theorem dX7_relearn_25 : decode cX7_relearn 25 = .ok (.iload_n 3, 1) := by decide +kernel
theorem dX7_relearn_26 : decode cX7_relearn 26 = .ok (.iload 4, 2) := by decide +kernel
theorem dX7_relearn_28 : decode cX7_relearn 28 = .ok (.invokevirtual 131, 3) := by decide +kernel
theorem dX7_relearn_31 : decode cX7_relearn 31 = .ok (.ifCond .ge 8, 3) := by decide +kernel
theorem dX7_relearn_34 : decode cX7_relearn 34 = .ok (.aload_n 0, 1) := by decide +kernel
theorem dX7_relearn_35 : decode cX7_relearn 35 = .ok (.invokevirtual 124, 3) := by decide +kernel
theorem dX7_relearn_38 : decode cX7_relearn 38 = .ok (.ireturn, 1) := by decide +kernel
theorem dX7_relearn_39 : decode cX7_relearn 39 = .ok (.aload_n 0, 1) := by decide +kernel
theorem dX7_relearn_40 : decode cX7_relearn 40 = .ok (.getfield 11, 3) := by decide +kernel
theorem dX7_relearn_43 : decode cX7_relearn 43 = .ok (.iload_n 1, 1) := by decide +kernel
theorem dX7_relearn_44 : decode cX7_relearn 44 = .ok (.aaload, 1) := by decide +kernel
theorem dX7_relearn_45 : decode cX7_relearn 45 = .ok (.iload_n 2, 1) := by decide +kernel
theorem dX7_relearn_46 : decode cX7_relearn 46 = .ok (.iload_n 3, 1) := by decide +kernel
theorem dX7_relearn_47 : decode cX7_relearn 47 = .ok (.iload 4, 2) := by decide +kernel
theorem dX7_relearn_49 : decode cX7_relearn 49 = .ok (.invokestatic 39, 3) := by decide +kernel
theorem dX7_relearn_52 : decode cX7_relearn 52 = .ok (.iload_n 2, 1) := by decide +kernel
theorem dX7_relearn_53 : decode cX7_relearn 53 = .ok (.iload_n 3, 1) := by decide +kernel
theorem dX7_relearn_54 : decode cX7_relearn 54 = .ok (.iload 4, 2) := by decide +kernel
theorem dX7_relearn_56 : decode cX7_relearn 56 = .ok (.invokestatic 134, 3) := by decide +kernel
theorem dX7_relearn_59 : decode cX7_relearn 59 = .ok (.iastore, 1) := by decide +kernel
theorem dX7_relearn_60 : decode cX7_relearn 60 = .ok (.aload_n 0, 1) := by decide +kernel
theorem dX7_relearn_61 : decode cX7_relearn 61 = .ok (.aload_n 0, 1) := by decide +kernel
theorem dX7_relearn_62 : decode cX7_relearn 62 = .ok (.iload_n 1, 1) := by decide +kernel
theorem dX7_relearn_63 : decode cX7_relearn 63 = .ok (.iload_n 2, 1) := by decide +kernel
theorem dX7_relearn_64 : decode cX7_relearn 64 = .ok (.iload_n 3, 1) := by decide +kernel
theorem dX7_relearn_65 : decode cX7_relearn 65 = .ok (.iload 4, 2) := by decide +kernel
theorem dX7_relearn_67 : decode cX7_relearn 67 = .ok (.invokevirtual 131, 3) := by decide +kernel
theorem dX7_relearn_70 : decode cX7_relearn 70 = .ok (.invokevirtual 117, 3) := by decide +kernel
theorem dX7_relearn_73 : decode cX7_relearn 73 = .ok (.ireturn, 1) := by decide +kernel
theorem dX7_forget_0 : decode cX7_forget 0 = .ok (.aload_n 0, 1) := by decide +kernel
theorem dX7_forget_1 : decode cX7_forget 1 = .ok (.iload_n 1, 1) := by decide +kernel
theorem dX7_forget_2 : decode cX7_forget 2 = .ok (.iconst 0, 1) := by decide +kernel
theorem dX7_forget_3 : decode cX7_forget 3 = .ok (.iconst 2, 1) := by decide +kernel
theorem dX7_forget_4 : decode cX7_forget 4 = .ok (.invokestatic 31, 3) := by decide +kernel
theorem dX7_forget_7 : decode cX7_forget 7 = .ok (.iload_n 2, 1) := by decide +kernel
theorem dX7_forget_8 : decode cX7_forget 8 = .ok (.iload_n 3, 1) := by decide +kernel
theorem dX7_forget_9 : decode cX7_forget 9 = .ok (.iload 4, 2) := by decide +kernel
theorem dX7_forget_11 : decode cX7_forget 11 = .ok (.invokestatic 107, 3) := by decide +kernel
theorem dX7_forget_14 : decode cX7_forget 14 = .ok (.invokevirtual 110, 3) := by decide +kernel
theorem dX7_forget_17 : decode cX7_forget 17 = .ok (.ifCond .eq 5, 3) := by decide +kernel
theorem dX7_forget_20 : decode cX7_forget 20 = .ok (.iconst 0, 1) := by decide +kernel
theorem dX7_forget_21 : decode cX7_forget 21 = .ok (.ireturn, 1) := by decide +kernel
theorem dX7_forget_22 : decode cX7_forget 22 = .ok (.aload_n 0, 1) := by decide +kernel
theorem dX7_forget_23 : decode cX7_forget 23 = .ok (.iload_n 1, 1) := by decide +kernel
theorem dX7_forget_24 : decode cX7_forget 24 = .ok (.iload_n 2, 1) := by decide +kernel
theorem dX7_forget_25 : decode cX7_forget 25 = .ok (.iload_n 3, 1) := by decide +kernel
theorem dX7_forget_26 : decode cX7_forget 26 = .ok (.iload 4, 2) := by decide +kernel
theorem dX7_forget_28 : decode cX7_forget 28 = .ok (.invokevirtual 131, 3) := by decide +kernel
theorem dX7_forget_31 : decode cX7_forget 31 = .ok (.istore 5, 2) := by decide +kernel
theorem dX7_forget_33 : decode cX7_forget 33 = .ok (.iload 5, 2) := by decide +kernel
theorem dX7_forget_35 : decode cX7_forget 35 = .ok (.ifCond .ge 8, 3) := by decide +kernel
theorem dX7_forget_38 : decode cX7_forget 38 = .ok (.aload_n 0, 1) := by decide +kernel
theorem dX7_forget_39 : decode cX7_forget 39 = .ok (.invokevirtual 124, 3) := by decide +kernel
theorem dX7_forget_42 : decode cX7_forget 42 = .ok (.ireturn, 1) := by decide +kernel
theorem dX7_forget_43 : decode cX7_forget 43 = .ok (.aload_n 0, 1) := by decide +kernel
theorem dX7_forget_44 : decode cX7_forget 44 = .ok (.getfield 11, 3) := by decide +kernel
theorem dX7_forget_47 : decode cX7_forget 47 = .ok (.iload_n 1, 1) := by decide +kernel
theorem dX7_forget_48 : decode cX7_forget 48 = .ok (.aaload, 1) := by decide +kernel
theorem dX7_forget_49 : decode cX7_forget 49 = .ok (.iload_n 2, 1) := by decide +kernel
theorem dX7_forget_50 : decode cX7_forget 50 = .ok (.iload_n 3, 1) := by decide +kernel
theorem dX7_forget_51 : decode cX7_forget 51 = .ok (.iload 4, 2) := by decide +kernel
theorem dX7_forget_53 : decode cX7_forget 53 = .ok (.invokestatic 39, 3) := by decide +kernel
theorem dX7_forget_56 : decode cX7_forget 56 = .ok (.iconst (-1), 1) := by decide +kernel
theorem dX7_forget_57 : decode cX7_forget 57 = .ok (.iastore, 1) := by decide +kernel
theorem dX7_forget_58 : decode cX7_forget 58 = .ok (.aload_n 0, 1) := by decide +kernel
theorem dX7_forget_59 : decode cX7_forget 59 = .ok (.iload 5, 2) := by decide +kernel
theorem dX7_forget_61 : decode cX7_forget 61 = .ok (.invokevirtual 117, 3) := by decide +kernel
theorem dX7_forget_64 : decode cX7_forget 64 = .ok (.ireturn, 1) := by decide +kernel
theorem dX7_forgetIf_0 : decode cX7_forgetIf 0 = .ok (.aload_n 0, 1) := by decide +kernel
theorem dX7_forgetIf_1 : decode cX7_forgetIf 1 = .ok (.iload_n 1, 1) := by decide +kernel
theorem dX7_forgetIf_2 : decode cX7_forgetIf 2 = .ok (.iconst 0, 1) := by decide +kernel
theorem dX7_forgetIf_3 : decode cX7_forgetIf 3 = .ok (.iconst 2, 1) := by decide +kernel
theorem dX7_forgetIf_4 : decode cX7_forgetIf 4 = .ok (.invokestatic 31, 3) := by decide +kernel
theorem dX7_forgetIf_7 : decode cX7_forgetIf 7 = .ok (.iload_n 2, 1) := by decide +kernel
theorem dX7_forgetIf_8 : decode cX7_forgetIf 8 = .ok (.iload_n 3, 1) := by decide +kernel
theorem dX7_forgetIf_9 : decode cX7_forgetIf 9 = .ok (.iload 4, 2) := by decide +kernel
theorem dX7_forgetIf_11 : decode cX7_forgetIf 11 = .ok (.invokestatic 107, 3) := by decide +kernel
theorem dX7_forgetIf_14 : decode cX7_forgetIf 14 = .ok (.invokevirtual 110, 3) := by decide +kernel
theorem dX7_forgetIf_17 : decode cX7_forgetIf 17 = .ok (.ifCond .eq 5, 3) := by decide +kernel
theorem dX7_forgetIf_20 : decode cX7_forgetIf 20 = .ok (.iconst 0, 1) := by decide +kernel
theorem dX7_forgetIf_21 : decode cX7_forgetIf 21 = .ok (.ireturn, 1) := by decide +kernel
theorem dX7_forgetIf_22 : decode cX7_forgetIf 22 = .ok (.aload_n 0, 1) := by decide +kernel
theorem dX7_forgetIf_23 : decode cX7_forgetIf 23 = .ok (.iload_n 1, 1) := by decide +kernel
theorem dX7_forgetIf_24 : decode cX7_forgetIf 24 = .ok (.iload_n 2, 1) := by decide +kernel
theorem dX7_forgetIf_25 : decode cX7_forgetIf 25 = .ok (.iload_n 3, 1) := by decide +kernel
theorem dX7_forgetIf_26 : decode cX7_forgetIf 26 = .ok (.iload 4, 2) := by decide +kernel
theorem dX7_forgetIf_28 : decode cX7_forgetIf 28 = .ok (.invokevirtual 131, 3) := by decide +kernel
theorem dX7_forgetIf_31 : decode cX7_forgetIf 31 = .ok (.istore 6, 2) := by decide +kernel
theorem dX7_forgetIf_33 : decode cX7_forgetIf 33 = .ok (.iload 6, 2) := by decide +kernel
theorem dX7_forgetIf_35 : decode cX7_forgetIf 35 = .ok (.ifCond .lt 14, 3) := by decide +kernel
theorem dX7_forgetIf_38 : decode cX7_forgetIf 38 = .ok (.iload 6, 2) := by decide +kernel
theorem dX7_forgetIf_40 : decode cX7_forgetIf 40 = .ok (.iload 5, 2) := by decide +kernel
theorem dX7_forgetIf_42 : decode cX7_forgetIf 42 = .ok (.if_icmp .ne 7, 3) := by decide +kernel
theorem dX7_forgetIf_45 : decode cX7_forgetIf 45 = .ok (.iconst 1, 1) := by decide +kernel
theorem dX7_forgetIf_46 : decode cX7_forgetIf 46 = .ok (.goto 4, 3) := by decide +kernel
theorem dX7_forgetIf_49 : decode cX7_forgetIf 49 = .ok (.iconst 0, 1) := by decide +kernel
theorem dX7_forgetIf_50 : decode cX7_forgetIf 50 = .ok (.istore 7, 2) := by decide +kernel
theorem dX7_forgetIf_52 : decode cX7_forgetIf 52 = .ok (.iload 7, 2) := by decide +kernel
theorem dX7_forgetIf_54 : decode cX7_forgetIf 54 = .ok (.ifCond .eq 18, 3) := by decide +kernel
theorem dX7_forgetIf_57 : decode cX7_forgetIf 57 = .ok (.aload_n 0, 1) := by decide +kernel
theorem dX7_forgetIf_58 : decode cX7_forgetIf 58 = .ok (.getfield 11, 3) := by decide +kernel
theorem dX7_forgetIf_61 : decode cX7_forgetIf 61 = .ok (.iload_n 1, 1) := by decide +kernel
theorem dX7_forgetIf_62 : decode cX7_forgetIf 62 = .ok (.aaload, 1) := by decide +kernel
theorem dX7_forgetIf_63 : decode cX7_forgetIf 63 = .ok (.iload_n 2, 1) := by decide +kernel
theorem dX7_forgetIf_64 : decode cX7_forgetIf 64 = .ok (.iload_n 3, 1) := by decide +kernel
theorem dX7_forgetIf_65 : decode cX7_forgetIf 65 = .ok (.iload 4, 2) := by decide +kernel
theorem dX7_forgetIf_67 : decode cX7_forgetIf 67 = .ok (.invokestatic 39, 3) := by decide +kernel
theorem dX7_forgetIf_70 : decode cX7_forgetIf 70 = .ok (.iconst (-1), 1) := by decide +kernel
theorem dX7_forgetIf_71 : decode cX7_forgetIf 71 = .ok (.iastore, 1) := by decide +kernel
theorem dX7_forgetIf_72 : decode cX7_forgetIf 72 = .ok (.aload_n 0, 1) := by decide +kernel
theorem dX7_forgetIf_73 : decode cX7_forgetIf 73 = .ok (.iload 7, 2) := by decide +kernel
theorem dX7_forgetIf_75 : decode cX7_forgetIf 75 = .ok (.invokestatic 43, 3) := by decide +kernel
theorem dX7_forgetIf_78 : decode cX7_forgetIf 78 = .ok (.invokevirtual 117, 3) := by decide +kernel
theorem dX7_forgetIf_81 : decode cX7_forgetIf 81 = .ok (.ireturn, 1) := by decide +kernel
theorem dX7_isSo_0 : decode cX7_isSo 0 = .ok (.aload_n 0, 1) := by decide +kernel
theorem dX7_isSo_1 : decode cX7_isSo 1 = .ok (.getfield 11, 3) := by decide +kernel
theorem dX7_isSo_4 : decode cX7_isSo 4 = .ok (.iload_n 1, 1) := by decide +kernel
theorem dX7_isSo_5 : decode cX7_isSo 5 = .ok (.aaload, 1) := by decide +kernel
theorem dX7_isSo_6 : decode cX7_isSo 6 = .ok (.iload_n 2, 1) := by decide +kernel
theorem dX7_isSo_7 : decode cX7_isSo 7 = .ok (.iaload, 1) := by decide +kernel
theorem dX7_isSo_8 : decode cX7_isSo 8 = .ok (.istore 5, 2) := by decide +kernel
theorem dX7_isSo_10 : decode cX7_isSo 10 = .ok (.iload 5, 2) := by decide +kernel
theorem dX7_isSo_12 : decode cX7_isSo 12 = .ok (.ifCond .ge 5, 3) := by decide +kernel
theorem dX7_isSo_15 : decode cX7_isSo 15 = .ok (.iconst 0, 1) := by decide +kernel
theorem dX7_isSo_16 : decode cX7_isSo 16 = .ok (.ireturn, 1) := by decide +kernel
theorem dX7_isSo_17 : decode cX7_isSo 17 = .ok (.iload 4, 2) := by decide +kernel
theorem dX7_isSo_19 : decode cX7_isSo 19 = .ok (.iload_n 3, 1) := by decide +kernel
theorem dX7_isSo_20 : decode cX7_isSo 20 = .ok (.ifCond .ne 10, 3) := by decide +kernel
theorem dX7_isSo_23 : decode cX7_isSo 23 = .ok (.iload_n 2, 1) := by decide +kernel
theorem dX7_isSo_24 : decode cX7_isSo 24 = .ok (.invokestatic 137, 3) := by decide +kernel
theorem dX7_isSo_27 : decode cX7_isSo 27 = .ok (.goto 29, 3) := by decide +kernel
theorem dX7_isSo_30 : decode cX7_isSo 30 = .ok (.iload_n 3, 1) := by decide +kernel
theorem dX7_isSo_31 : decode cX7_isSo 31 = .ok (.iconst 1, 1) := by decide +kernel
theorem dX7_isSo_32 : decode cX7_isSo 32 = .ok (.if_icmp .ne 10, 3) := by decide +kernel
theorem dX7_isSo_35 : decode cX7_isSo 35 = .ok (.iload_n 2, 1) := by decide +kernel
theorem dX7_isSo_36 : decode cX7_isSo 36 = .ok (.invokestatic 140, 3) := by decide +kernel
theorem dX7_isSo_39 : decode cX7_isSo 39 = .ok (.goto 17, 3) := by decide +kernel
theorem dX7_isSo_42 : decode cX7_isSo 42 = .ok (.iload_n 3, 1) := by decide +kernel
theorem dX7_isSo_43 : decode cX7_isSo 43 = .ok (.iconst 2, 1) := by decide +kernel
theorem dX7_isSo_44 : decode cX7_isSo 44 = .ok (.if_icmp .ne 10, 3) := by decide +kernel
theorem dX7_isSo_47 : decode cX7_isSo 47 = .ok (.iload_n 2, 1) := by decide +kernel
theorem dX7_isSo_48 : decode cX7_isSo 48 = .ok (.invokestatic 143, 3) := by decide +kernel
theorem dX7_isSo_51 : decode cX7_isSo 51 = .ok (.goto 5, 3) := by decide +kernel
theorem dX7_isSo_54 : decode cX7_isSo 54 = .ok (.iload 5, 2) := by decide +kernel
theorem dX7_isSo_56 : decode cX7_isSo 56 = .ok (.if_icmp .ne 7, 3) := by decide +kernel
theorem dX7_isSo_59 : decode cX7_isSo 59 = .ok (.iconst 1, 1) := by decide +kernel
theorem dX7_isSo_60 : decode cX7_isSo 60 = .ok (.goto 4, 3) := by decide +kernel
theorem dX7_isSo_63 : decode cX7_isSo 63 = .ok (.iconst 0, 1) := by decide +kernel
theorem dX7_isSo_64 : decode cX7_isSo 64 = .ok (.ireturn, 1) := by decide +kernel
theorem dX7_counted_0 : decode cX7_counted 0 = .ok (.iconst 0, 1) := by decide +kernel
theorem dX7_counted_1 : decode cX7_counted 1 = .ok (.istore 4, 2) := by decide +kernel
theorem dX7_counted_3 : decode cX7_counted 3 = .ok (.iconst 0, 1) := by decide +kernel
theorem dX7_counted_4 : decode cX7_counted 4 = .ok (.istore 5, 2) := by decide +kernel
theorem dX7_counted_6 : decode cX7_counted 6 = .ok (.iload 5, 2) := by decide +kernel
theorem dX7_counted_8 : decode cX7_counted 8 = .ok (.sipush 6144, 3) := by decide +kernel
theorem dX7_counted_11 : decode cX7_counted 11 = .ok (.if_icmp .ge 26, 3) := by decide +kernel
theorem dX7_counted_14 : decode cX7_counted 14 = .ok (.iload 4, 2) := by decide +kernel
theorem dX7_counted_16 : decode cX7_counted 16 = .ok (.aload_n 0, 1) := by decide +kernel
theorem dX7_counted_17 : decode cX7_counted 17 = .ok (.iload_n 1, 1) := by decide +kernel
theorem dX7_counted_18 : decode cX7_counted 18 = .ok (.iload 5, 2) := by decide +kernel
theorem dX7_counted_20 : decode cX7_counted 20 = .ok (.iload_n 2, 1) := by decide +kernel
theorem dX7_counted_21 : decode cX7_counted 21 = .ok (.iload_n 3, 1) := by decide +kernel
theorem dX7_counted_22 : decode cX7_counted 22 = .ok (.invokevirtual 146, 3) := by decide +kernel
theorem dX7_counted_25 : decode cX7_counted 25 = .ok (.invokestatic 43, 3) := by decide +kernel
theorem dX7_counted_28 : decode cX7_counted 28 = .ok (.iadd, 1) := by decide +kernel
theorem dX7_counted_29 : decode cX7_counted 29 = .ok (.istore 4, 2) := by decide +kernel
theorem dX7_counted_31 : decode cX7_counted 31 = .ok (.iinc 5 1, 3) := by decide +kernel
theorem dX7_counted_34 : decode cX7_counted 34 = .ok (.goto (-28), 3) := by decide +kernel
theorem dX7_counted_37 : decode cX7_counted 37 = .ok (.iload 4, 2) := by decide +kernel
theorem dX7_counted_39 : decode cX7_counted 39 = .ok (.ireturn, 1) := by decide +kernel
theorem dX7_forgetAll_0 : decode cX7_forgetAll 0 = .ok (.aload_n 0, 1) := by decide +kernel
theorem dX7_forgetAll_1 : decode cX7_forgetAll 1 = .ok (.iload_n 1, 1) := by decide +kernel
theorem dX7_forgetAll_2 : decode cX7_forgetAll 2 = .ok (.iconst 0, 1) := by decide +kernel
theorem dX7_forgetAll_3 : decode cX7_forgetAll 3 = .ok (.iconst 2, 1) := by decide +kernel
theorem dX7_forgetAll_4 : decode cX7_forgetAll 4 = .ok (.invokestatic 31, 3) := by decide +kernel
theorem dX7_forgetAll_7 : decode cX7_forgetAll 7 = .ok (.iload_n 2, 1) := by decide +kernel
theorem dX7_forgetAll_8 : decode cX7_forgetAll 8 = .ok (.iconst 0, 1) := by decide +kernel
theorem dX7_forgetAll_9 : decode cX7_forgetAll 9 = .ok (.iconst 3, 1) := by decide +kernel
theorem dX7_forgetAll_10 : decode cX7_forgetAll 10 = .ok (.invokestatic 31, 3) := by decide +kernel
theorem dX7_forgetAll_13 : decode cX7_forgetAll 13 = .ok (.invokevirtual 110, 3) := by decide +kernel
theorem dX7_forgetAll_16 : decode cX7_forgetAll 16 = .ok (.ifCond .eq 5, 3) := by decide +kernel
theorem dX7_forgetAll_19 : decode cX7_forgetAll 19 = .ok (.iconst 0, 1) := by decide +kernel
theorem dX7_forgetAll_20 : decode cX7_forgetAll 20 = .ok (.ireturn, 1) := by decide +kernel
theorem dX7_forgetAll_21 : decode cX7_forgetAll 21 = .ok (.aload_n 0, 1) := by decide +kernel
theorem dX7_forgetAll_22 : decode cX7_forgetAll 22 = .ok (.iload_n 1, 1) := by decide +kernel
theorem dX7_forgetAll_23 : decode cX7_forgetAll 23 = .ok (.iload_n 2, 1) := by decide +kernel
theorem dX7_forgetAll_24 : decode cX7_forgetAll 24 = .ok (.iload_n 3, 1) := by decide +kernel
theorem dX7_forgetAll_25 : decode cX7_forgetAll 25 = .ok (.invokevirtual 150, 3) := by decide +kernel
theorem dX7_forgetAll_28 : decode cX7_forgetAll 28 = .ok (.istore 4, 2) := by decide +kernel
theorem dX7_forgetAll_30 : decode cX7_forgetAll 30 = .ok (.iconst 0, 1) := by decide +kernel
theorem dX7_forgetAll_31 : decode cX7_forgetAll 31 = .ok (.istore 5, 2) := by decide +kernel
theorem dX7_forgetAll_33 : decode cX7_forgetAll 33 = .ok (.iload 5, 2) := by decide +kernel
theorem dX7_forgetAll_35 : decode cX7_forgetAll 35 = .ok (.sipush 6144, 3) := by decide +kernel
theorem dX7_forgetAll_38 : decode cX7_forgetAll 38 = .ok (.if_icmp .ge 31, 3) := by decide +kernel
theorem dX7_forgetAll_41 : decode cX7_forgetAll 41 = .ok (.aload_n 0, 1) := by decide +kernel
theorem dX7_forgetAll_42 : decode cX7_forgetAll 42 = .ok (.iload_n 1, 1) := by decide +kernel
theorem dX7_forgetAll_43 : decode cX7_forgetAll 43 = .ok (.iload 5, 2) := by decide +kernel
theorem dX7_forgetAll_45 : decode cX7_forgetAll 45 = .ok (.iload_n 2, 1) := by decide +kernel
theorem dX7_forgetAll_46 : decode cX7_forgetAll 46 = .ok (.iload_n 3, 1) := by decide +kernel
theorem dX7_forgetAll_47 : decode cX7_forgetAll 47 = .ok (.invokevirtual 146, 3) := by decide +kernel
theorem dX7_forgetAll_50 : decode cX7_forgetAll 50 = .ok (.ifCond .eq 13, 3) := by decide +kernel
theorem dX7_forgetAll_53 : decode cX7_forgetAll 53 = .ok (.aload_n 0, 1) := by decide +kernel
theorem dX7_forgetAll_54 : decode cX7_forgetAll 54 = .ok (.getfield 11, 3) := by decide +kernel
theorem dX7_forgetAll_57 : decode cX7_forgetAll 57 = .ok (.iload_n 1, 1) := by decide +kernel
theorem dX7_forgetAll_58 : decode cX7_forgetAll 58 = .ok (.aaload, 1) := by decide +kernel
theorem dX7_forgetAll_59 : decode cX7_forgetAll 59 = .ok (.iload 5, 2) := by decide +kernel
theorem dX7_forgetAll_61 : decode cX7_forgetAll 61 = .ok (.iconst (-1), 1) := by decide +kernel
theorem dX7_forgetAll_62 : decode cX7_forgetAll 62 = .ok (.iastore, 1) := by decide +kernel
theorem dX7_forgetAll_63 : decode cX7_forgetAll 63 = .ok (.iinc 5 1, 3) := by decide +kernel
theorem dX7_forgetAll_66 : decode cX7_forgetAll 66 = .ok (.goto (-33), 3) := by decide +kernel
theorem dX7_forgetAll_69 : decode cX7_forgetAll 69 = .ok (.aload_n 0, 1) := by decide +kernel
theorem dX7_forgetAll_70 : decode cX7_forgetAll 70 = .ok (.iload 4, 2) := by decide +kernel
theorem dX7_forgetAll_72 : decode cX7_forgetAll 72 = .ok (.invokevirtual 117, 3) := by decide +kernel
theorem dX7_forgetAll_75 : decode cX7_forgetAll 75 = .ok (.ireturn, 1) := by decide +kernel
theorem dX7_clear_0 : decode cX7_clear 0 = .ok (.aload_n 0, 1) := by decide +kernel
theorem dX7_clear_1 : decode cX7_clear 1 = .ok (.iload_n 1, 1) := by decide +kernel
theorem dX7_clear_2 : decode cX7_clear 2 = .ok (.iconst 0, 1) := by decide +kernel
theorem dX7_clear_3 : decode cX7_clear 3 = .ok (.iconst 2, 1) := by decide +kernel
theorem dX7_clear_4 : decode cX7_clear 4 = .ok (.invokestatic 31, 3) := by decide +kernel
theorem dX7_clear_7 : decode cX7_clear 7 = .ok (.iconst 0, 1) := by decide +kernel
theorem dX7_clear_8 : decode cX7_clear 8 = .ok (.invokevirtual 110, 3) := by decide +kernel
theorem dX7_clear_11 : decode cX7_clear 11 = .ok (.ifCond .eq 5, 3) := by decide +kernel
theorem dX7_clear_14 : decode cX7_clear 14 = .ok (.iconst 0, 1) := by decide +kernel
theorem dX7_clear_15 : decode cX7_clear 15 = .ok (.ireturn, 1) := by decide +kernel
theorem dX7_clear_16 : decode cX7_clear 16 = .ok (.aload_n 0, 1) := by decide +kernel
theorem dX7_clear_17 : decode cX7_clear 17 = .ok (.iload_n 1, 1) := by decide +kernel
theorem dX7_clear_18 : decode cX7_clear 18 = .ok (.iconst 0, 1) := by decide +kernel
theorem dX7_clear_19 : decode cX7_clear 19 = .ok (.invokevirtual 153, 3) := by decide +kernel
theorem dX7_clear_22 : decode cX7_clear 22 = .ok (.istore_n 2, 1) := by decide +kernel
theorem dX7_clear_23 : decode cX7_clear 23 = .ok (.iconst 0, 1) := by decide +kernel
theorem dX7_clear_24 : decode cX7_clear 24 = .ok (.istore_n 3, 1) := by decide +kernel
theorem dX7_clear_25 : decode cX7_clear 25 = .ok (.iload_n 3, 1) := by decide +kernel
theorem dX7_clear_26 : decode cX7_clear 26 = .ok (.sipush 6144, 3) := by decide +kernel
theorem dX7_clear_29 : decode cX7_clear 29 = .ok (.if_icmp .ge 18, 3) := by decide +kernel
theorem dX7_clear_32 : decode cX7_clear 32 = .ok (.aload_n 0, 1) := by decide +kernel
theorem dX7_clear_33 : decode cX7_clear 33 = .ok (.getfield 11, 3) := by decide +kernel
theorem dX7_clear_36 : decode cX7_clear 36 = .ok (.iload_n 1, 1) := by decide +kernel
theorem dX7_clear_37 : decode cX7_clear 37 = .ok (.aaload, 1) := by decide +kernel
theorem dX7_clear_38 : decode cX7_clear 38 = .ok (.iload_n 3, 1) := by decide +kernel
theorem dX7_clear_39 : decode cX7_clear 39 = .ok (.iconst (-1), 1) := by decide +kernel
theorem dX7_clear_40 : decode cX7_clear 40 = .ok (.iastore, 1) := by decide +kernel
theorem dX7_clear_41 : decode cX7_clear 41 = .ok (.iinc 3 1, 3) := by decide +kernel
theorem dX7_clear_44 : decode cX7_clear 44 = .ok (.goto (-19), 3) := by decide +kernel
theorem dX7_clear_47 : decode cX7_clear 47 = .ok (.aload_n 0, 1) := by decide +kernel
theorem dX7_clear_48 : decode cX7_clear 48 = .ok (.iload_n 2, 1) := by decide +kernel
theorem dX7_clear_49 : decode cX7_clear 49 = .ok (.invokevirtual 117, 3) := by decide +kernel
theorem dX7_clear_52 : decode cX7_clear 52 = .ok (.ireturn, 1) := by decide +kernel
theorem dX7_copy_0 : decode cX7_copy 0 = .ok (.aload_n 0, 1) := by decide +kernel
theorem dX7_copy_1 : decode cX7_copy 1 = .ok (.iload_n 1, 1) := by decide +kernel
theorem dX7_copy_2 : decode cX7_copy 2 = .ok (.iconst 0, 1) := by decide +kernel
theorem dX7_copy_3 : decode cX7_copy 3 = .ok (.iconst 2, 1) := by decide +kernel
theorem dX7_copy_4 : decode cX7_copy 4 = .ok (.invokestatic 31, 3) := by decide +kernel
theorem dX7_copy_7 : decode cX7_copy 7 = .ok (.ifCond .ne 12, 3) := by decide +kernel
theorem dX7_copy_10 : decode cX7_copy 10 = .ok (.iload_n 2, 1) := by decide +kernel
theorem dX7_copy_11 : decode cX7_copy 11 = .ok (.iconst 0, 1) := by decide +kernel
theorem dX7_copy_12 : decode cX7_copy 12 = .ok (.iconst 2, 1) := by decide +kernel
theorem dX7_copy_13 : decode cX7_copy 13 = .ok (.invokestatic 31, 3) := by decide +kernel
theorem dX7_copy_16 : decode cX7_copy 16 = .ok (.ifCond .eq 7, 3) := by decide +kernel
theorem dX7_copy_19 : decode cX7_copy 19 = .ok (.iconst 1, 1) := by decide +kernel
theorem dX7_copy_20 : decode cX7_copy 20 = .ok (.goto 4, 3) := by decide +kernel
theorem dX7_copy_23 : decode cX7_copy 23 = .ok (.iconst 0, 1) := by decide +kernel
theorem dX7_copy_24 : decode cX7_copy 24 = .ok (.iconst 0, 1) := by decide +kernel
theorem dX7_copy_25 : decode cX7_copy 25 = .ok (.invokevirtual 110, 3) := by decide +kernel
theorem dX7_copy_28 : decode cX7_copy 28 = .ok (.ifCond .eq 5, 3) := by decide +kernel
theorem dX7_copy_31 : decode cX7_copy 31 = .ok (.iconst 0, 1) := by decide +kernel
theorem dX7_copy_32 : decode cX7_copy 32 = .ok (.ireturn, 1) := by decide +kernel
theorem dX7_copy_33 : decode cX7_copy 33 = .ok (.iconst 0, 1) := by decide +kernel
theorem dX7_copy_34 : decode cX7_copy 34 = .ok (.istore_n 3, 1) := by decide +kernel
theorem dX7_copy_35 : decode cX7_copy 35 = .ok (.iload_n 3, 1) := by decide +kernel
theorem dX7_copy_36 : decode cX7_copy 36 = .ok (.sipush 6144, 3) := by decide +kernel
theorem dX7_copy_39 : decode cX7_copy 39 = .ok (.if_icmp .ge 25, 3) := by decide +kernel
theorem dX7_copy_42 : decode cX7_copy 42 = .ok (.aload_n 0, 1) := by decide +kernel
theorem dX7_copy_43 : decode cX7_copy 43 = .ok (.getfield 11, 3) := by decide +kernel
theorem dX7_copy_46 : decode cX7_copy 46 = .ok (.iload_n 2, 1) := by decide +kernel
theorem dX7_copy_47 : decode cX7_copy 47 = .ok (.aaload, 1) := by decide +kernel
theorem dX7_copy_48 : decode cX7_copy 48 = .ok (.iload_n 3, 1) := by decide +kernel
theorem dX7_copy_49 : decode cX7_copy 49 = .ok (.aload_n 0, 1) := by decide +kernel
theorem dX7_copy_50 : decode cX7_copy 50 = .ok (.getfield 11, 3) := by decide +kernel
theorem dX7_copy_53 : decode cX7_copy 53 = .ok (.iload_n 1, 1) := by decide +kernel
theorem dX7_copy_54 : decode cX7_copy 54 = .ok (.aaload, 1) := by decide +kernel
theorem dX7_copy_55 : decode cX7_copy 55 = .ok (.iload_n 3, 1) := by decide +kernel
theorem dX7_copy_56 : decode cX7_copy 56 = .ok (.iaload, 1) := by decide +kernel
theorem dX7_copy_57 : decode cX7_copy 57 = .ok (.iastore, 1) := by decide +kernel
theorem dX7_copy_58 : decode cX7_copy 58 = .ok (.iinc 3 1, 3) := by decide +kernel
theorem dX7_copy_61 : decode cX7_copy 61 = .ok (.goto (-26), 3) := by decide +kernel
theorem dX7_copy_64 : decode cX7_copy 64 = .ok (.aload_n 0, 1) := by decide +kernel
theorem dX7_copy_65 : decode cX7_copy 65 = .ok (.aload_n 0, 1) := by decide +kernel
theorem dX7_copy_66 : decode cX7_copy 66 = .ok (.iload_n 2, 1) := by decide +kernel
theorem dX7_copy_67 : decode cX7_copy 67 = .ok (.iconst 0, 1) := by decide +kernel
theorem dX7_copy_68 : decode cX7_copy 68 = .ok (.invokevirtual 153, 3) := by decide +kernel
theorem dX7_copy_71 : decode cX7_copy 71 = .ok (.invokevirtual 117, 3) := by decide +kernel
theorem dX7_copy_74 : decode cX7_copy 74 = .ok (.ireturn, 1) := by decide +kernel
theorem dX7_pour_0 : decode cX7_pour 0 = .ok (.aload_n 0, 1) := by decide +kernel
theorem dX7_pour_1 : decode cX7_pour 1 = .ok (.iload_n 1, 1) := by decide +kernel
theorem dX7_pour_2 : decode cX7_pour 2 = .ok (.iconst 0, 1) := by decide +kernel
theorem dX7_pour_3 : decode cX7_pour 3 = .ok (.iconst 2, 1) := by decide +kernel
theorem dX7_pour_4 : decode cX7_pour 4 = .ok (.invokestatic 31, 3) := by decide +kernel
theorem dX7_pour_7 : decode cX7_pour 7 = .ok (.ifCond .ne 12, 3) := by decide +kernel
theorem dX7_pour_10 : decode cX7_pour 10 = .ok (.iload_n 2, 1) := by decide +kernel
theorem dX7_pour_11 : decode cX7_pour 11 = .ok (.iconst 0, 1) := by decide +kernel
theorem dX7_pour_12 : decode cX7_pour 12 = .ok (.iconst 2, 1) := by decide +kernel
theorem dX7_pour_13 : decode cX7_pour 13 = .ok (.invokestatic 31, 3) := by decide +kernel
theorem dX7_pour_16 : decode cX7_pour 16 = .ok (.ifCond .eq 7, 3) := by decide +kernel
theorem dX7_pour_19 : decode cX7_pour 19 = .ok (.iconst 1, 1) := by decide +kernel
theorem dX7_pour_20 : decode cX7_pour 20 = .ok (.goto 4, 3) := by decide +kernel
theorem dX7_pour_23 : decode cX7_pour 23 = .ok (.iconst 0, 1) := by decide +kernel
theorem dX7_pour_24 : decode cX7_pour 24 = .ok (.iconst 0, 1) := by decide +kernel
theorem dX7_pour_25 : decode cX7_pour 25 = .ok (.invokevirtual 110, 3) := by decide +kernel
theorem dX7_pour_28 : decode cX7_pour 28 = .ok (.ifCond .eq 5, 3) := by decide +kernel
theorem dX7_pour_31 : decode cX7_pour 31 = .ok (.iconst 0, 1) := by decide +kernel
theorem dX7_pour_32 : decode cX7_pour 32 = .ok (.ireturn, 1) := by decide +kernel
theorem dX7_pour_33 : decode cX7_pour 33 = .ok (.iload_n 1, 1) := by decide +kernel
theorem dX7_pour_34 : decode cX7_pour 34 = .ok (.iload_n 2, 1) := by decide +kernel
theorem dX7_pour_35 : decode cX7_pour 35 = .ok (.if_icmp .ne 8, 3) := by decide +kernel
theorem dX7_pour_38 : decode cX7_pour 38 = .ok (.aload_n 0, 1) := by decide +kernel
theorem dX7_pour_39 : decode cX7_pour 39 = .ok (.invokevirtual 124, 3) := by decide +kernel
theorem dX7_pour_42 : decode cX7_pour 42 = .ok (.ireturn, 1) := by decide +kernel
theorem dX7_pour_43 : decode cX7_pour 43 = .ok (.aload_n 0, 1) := by decide +kernel
theorem dX7_pour_44 : decode cX7_pour 44 = .ok (.iload_n 2, 1) := by decide +kernel
theorem dX7_pour_45 : decode cX7_pour 45 = .ok (.iconst 0, 1) := by decide +kernel
theorem dX7_pour_46 : decode cX7_pour 46 = .ok (.invokevirtual 153, 3) := by decide +kernel
theorem dX7_pour_49 : decode cX7_pour 49 = .ok (.istore_n 3, 1) := by decide +kernel
theorem dX7_pour_50 : decode cX7_pour 50 = .ok (.iconst 0, 1) := by decide +kernel
theorem dX7_pour_51 : decode cX7_pour 51 = .ok (.istore 4, 2) := by decide +kernel
theorem dX7_pour_53 : decode cX7_pour 53 = .ok (.iload 4, 2) := by decide +kernel
theorem dX7_pour_55 : decode cX7_pour 55 = .ok (.sipush 6144, 3) := by decide +kernel
theorem dX7_pour_58 : decode cX7_pour 58 = .ok (.if_icmp .ge 39, 3) := by decide +kernel
theorem dX7_pour_61 : decode cX7_pour 61 = .ok (.aload_n 0, 1) := by decide +kernel
theorem dX7_pour_62 : decode cX7_pour 62 = .ok (.getfield 11, 3) := by decide +kernel
theorem dX7_pour_65 : decode cX7_pour 65 = .ok (.iload_n 1, 1) := by decide +kernel
theorem dX7_pour_66 : decode cX7_pour 66 = .ok (.aaload, 1) := by decide +kernel
theorem dX7_pour_67 : decode cX7_pour 67 = .ok (.iload 4, 2) := by decide +kernel
theorem dX7_pour_69 : decode cX7_pour 69 = .ok (.iaload, 1) := by decide +kernel
theorem dX7_pour_70 : decode cX7_pour 70 = .ok (.ifCond .lt 21, 3) := by decide +kernel
theorem dX7_pour_73 : decode cX7_pour 73 = .ok (.aload_n 0, 1) := by decide +kernel
theorem dX7_pour_74 : decode cX7_pour 74 = .ok (.getfield 11, 3) := by decide +kernel
theorem dX7_pour_77 : decode cX7_pour 77 = .ok (.iload_n 2, 1) := by decide +kernel
theorem dX7_pour_78 : decode cX7_pour 78 = .ok (.aaload, 1) := by decide +kernel
theorem dX7_pour_79 : decode cX7_pour 79 = .ok (.iload 4, 2) := by decide +kernel
theorem dX7_pour_81 : decode cX7_pour 81 = .ok (.aload_n 0, 1) := by decide +kernel
theorem dX7_pour_82 : decode cX7_pour 82 = .ok (.getfield 11, 3) := by decide +kernel
