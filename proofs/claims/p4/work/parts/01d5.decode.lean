theorem dL_ruleWorth_22 : decode cL_ruleWorth 22 = .ok (.iconst 2, 1) := by decide +kernel
theorem dL_ruleWorth_23 : decode cL_ruleWorth 23 = .ok (.ireturn, 1) := by decide +kernel
theorem dL_ruleWorth_24 : decode cL_ruleWorth 24 = .ok (.iconst 0, 1) := by decide +kernel
theorem dL_ruleWorth_25 : decode cL_ruleWorth 25 = .ok (.ireturn, 1) := by decide +kernel
theorem dL_addPart_0 : decode cL_addPart 0 = .ok (.aload 4, 2) := by decide +kernel
theorem dL_addPart_2 : decode cL_addPart 2 = .ok (.aload_n 0, 1) := by decide +kernel
theorem dL_addPart_3 : decode cL_addPart 3 = .ok (.iload_n 1, 1) := by decide +kernel
theorem dL_addPart_4 : decode cL_addPart 4 = .ok (.iload_n 2, 1) := by decide +kernel
theorem dL_addPart_5 : decode cL_addPart 5 = .ok (.iload_n 3, 1) := by decide +kernel
theorem dL_addPart_6 : decode cL_addPart 6 = .ok (.invokevirtual 101, 3) := by decide +kernel
theorem dL_addPart_9 : decode cL_addPart 9 = .ok (.i2l, 1) := by decide +kernel
theorem dL_addPart_10 : decode cL_addPart 10 = .ok (.putfield 13, 3) := by decide +kernel
theorem dL_addPart_13 : decode cL_addPart 13 = .ok (.goto 11, 3) := by decide +kernel
theorem dL_addPart_16 : decode cL_addPart 16 = .ok (.astore 5, 2) := by decide +kernel
theorem dL_addPart_18 : decode cL_addPart 18 = .ok (.iconst 1, 1) := by decide +kernel
theorem dL_addPart_19 : decode cL_addPart 19 = .ok (.ireturn, 1) := by decide +kernel
theorem dL_addPart_20 : decode cL_addPart 20 = .ok (.astore 5, 2) := by decide +kernel
theorem dL_addPart_22 : decode cL_addPart 22 = .ok (.iconst 2, 1) := by decide +kernel
theorem dL_addPart_23 : decode cL_addPart 23 = .ok (.ireturn, 1) := by decide +kernel
theorem dL_addPart_24 : decode cL_addPart 24 = .ok (.iconst 0, 1) := by decide +kernel
theorem dL_addPart_25 : decode cL_addPart 25 = .ok (.ireturn, 1) := by decide +kernel
theorem dL_takePart_0 : decode cL_takePart 0 = .ok (.aload_n 3, 1) := by decide +kernel
theorem dL_takePart_1 : decode cL_takePart 1 = .ok (.aload_n 0, 1) := by decide +kernel
theorem dL_takePart_2 : decode cL_takePart 2 = .ok (.iload_n 1, 1) := by decide +kernel
theorem dL_takePart_3 : decode cL_takePart 3 = .ok (.iload_n 2, 1) := by decide +kernel
theorem dL_takePart_4 : decode cL_takePart 4 = .ok (.invokevirtual 104, 3) := by decide +kernel
theorem dL_takePart_7 : decode cL_takePart 7 = .ok (.i2l, 1) := by decide +kernel
theorem dL_takePart_8 : decode cL_takePart 8 = .ok (.putfield 13, 3) := by decide +kernel
theorem dL_takePart_11 : decode cL_takePart 11 = .ok (.goto 11, 3) := by decide +kernel
theorem dL_takePart_14 : decode cL_takePart 14 = .ok (.astore 4, 2) := by decide +kernel
theorem dL_takePart_16 : decode cL_takePart 16 = .ok (.iconst 1, 1) := by decide +kernel
theorem dL_takePart_17 : decode cL_takePart 17 = .ok (.ireturn, 1) := by decide +kernel
theorem dL_takePart_18 : decode cL_takePart 18 = .ok (.astore 4, 2) := by decide +kernel
theorem dL_takePart_20 : decode cL_takePart 20 = .ok (.iconst 2, 1) := by decide +kernel
theorem dL_takePart_21 : decode cL_takePart 21 = .ok (.ireturn, 1) := by decide +kernel
theorem dL_takePart_22 : decode cL_takePart 22 = .ok (.iconst 0, 1) := by decide +kernel
theorem dL_takePart_23 : decode cL_takePart 23 = .ok (.ireturn, 1) := by decide +kernel
theorem dL_layFirst_0 : decode cL_layFirst 0 = .ok (.aload_n 3, 1) := by decide +kernel
theorem dL_layFirst_1 : decode cL_layFirst 1 = .ok (.aload_n 0, 1) := by decide +kernel
theorem dL_layFirst_2 : decode cL_layFirst 2 = .ok (.iload_n 1, 1) := by decide +kernel
theorem dL_layFirst_3 : decode cL_layFirst 3 = .ok (.iload_n 2, 1) := by decide +kernel
theorem dL_layFirst_4 : decode cL_layFirst 4 = .ok (.invokevirtual 107, 3) := by decide +kernel
theorem dL_layFirst_7 : decode cL_layFirst 7 = .ok (.i2l, 1) := by decide +kernel
theorem dL_layFirst_8 : decode cL_layFirst 8 = .ok (.putfield 13, 3) := by decide +kernel
theorem dL_layFirst_11 : decode cL_layFirst 11 = .ok (.goto 11, 3) := by decide +kernel
theorem dL_layFirst_14 : decode cL_layFirst 14 = .ok (.astore 4, 2) := by decide +kernel
theorem dL_layFirst_16 : decode cL_layFirst 16 = .ok (.iconst 1, 1) := by decide +kernel
theorem dL_layFirst_17 : decode cL_layFirst 17 = .ok (.ireturn, 1) := by decide +kernel
theorem dL_layFirst_18 : decode cL_layFirst 18 = .ok (.astore 4, 2) := by decide +kernel
theorem dL_layFirst_20 : decode cL_layFirst 20 = .ok (.iconst 2, 1) := by decide +kernel
theorem dL_layFirst_21 : decode cL_layFirst 21 = .ok (.ireturn, 1) := by decide +kernel
theorem dL_layFirst_22 : decode cL_layFirst 22 = .ok (.iconst 0, 1) := by decide +kernel
theorem dL_layFirst_23 : decode cL_layFirst 23 = .ok (.ireturn, 1) := by decide +kernel
theorem dL_next_0 : decode cL_next 0 = .ok (.aload_n 2, 1) := by decide +kernel
theorem dL_next_1 : decode cL_next 1 = .ok (.aload_n 0, 1) := by decide +kernel
theorem dL_next_2 : decode cL_next 2 = .ok (.iload_n 1, 1) := by decide +kernel
theorem dL_next_3 : decode cL_next 3 = .ok (.invokevirtual 110, 3) := by decide +kernel
theorem dL_next_6 : decode cL_next 6 = .ok (.i2l, 1) := by decide +kernel
theorem dL_next_7 : decode cL_next 7 = .ok (.putfield 13, 3) := by decide +kernel
theorem dL_next_10 : decode cL_next 10 = .ok (.goto 6, 3) := by decide +kernel
theorem dL_next_13 : decode cL_next 13 = .ok (.astore_n 3, 1) := by decide +kernel
theorem dL_next_14 : decode cL_next 14 = .ok (.iconst 1, 1) := by decide +kernel
theorem dL_next_15 : decode cL_next 15 = .ok (.ireturn, 1) := by decide +kernel
theorem dL_next_16 : decode cL_next 16 = .ok (.iconst 0, 1) := by decide +kernel
theorem dL_next_17 : decode cL_next 17 = .ok (.ireturn, 1) := by decide +kernel
theorem dL_turn_0 : decode cL_turn 0 = .ok (.aload_n 2, 1) := by decide +kernel
theorem dL_turn_1 : decode cL_turn 1 = .ok (.aload_n 0, 1) := by decide +kernel
theorem dL_turn_2 : decode cL_turn 2 = .ok (.iload_n 1, 1) := by decide +kernel
theorem dL_turn_3 : decode cL_turn 3 = .ok (.invokevirtual 113, 3) := by decide +kernel
theorem dL_turn_6 : decode cL_turn 6 = .ok (.i2l, 1) := by decide +kernel
theorem dL_turn_7 : decode cL_turn 7 = .ok (.putfield 13, 3) := by decide +kernel
theorem dL_turn_10 : decode cL_turn 10 = .ok (.goto 6, 3) := by decide +kernel
theorem dL_turn_13 : decode cL_turn 13 = .ok (.astore_n 3, 1) := by decide +kernel
theorem dL_turn_14 : decode cL_turn 14 = .ok (.iconst 1, 1) := by decide +kernel
theorem dL_turn_15 : decode cL_turn 15 = .ok (.ireturn, 1) := by decide +kernel
theorem dL_turn_16 : decode cL_turn 16 = .ok (.iconst 0, 1) := by decide +kernel
theorem dL_turn_17 : decode cL_turn 17 = .ok (.ireturn, 1) := by decide +kernel
theorem dL_toUnlike_0 : decode cL_toUnlike 0 = .ok (.aload_n 2, 1) := by decide +kernel
theorem dL_toUnlike_1 : decode cL_toUnlike 1 = .ok (.aload_n 0, 1) := by decide +kernel
theorem dL_toUnlike_2 : decode cL_toUnlike 2 = .ok (.iload_n 1, 1) := by decide +kernel
theorem dL_toUnlike_3 : decode cL_toUnlike 3 = .ok (.invokevirtual 116, 3) := by decide +kernel
theorem dL_toUnlike_6 : decode cL_toUnlike 6 = .ok (.i2l, 1) := by decide +kernel
theorem dL_toUnlike_7 : decode cL_toUnlike 7 = .ok (.putfield 13, 3) := by decide +kernel
theorem dL_toUnlike_10 : decode cL_toUnlike 10 = .ok (.goto 6, 3) := by decide +kernel
theorem dL_toUnlike_13 : decode cL_toUnlike 13 = .ok (.astore_n 3, 1) := by decide +kernel
theorem dL_toUnlike_14 : decode cL_toUnlike 14 = .ok (.iconst 1, 1) := by decide +kernel
theorem dL_toUnlike_15 : decode cL_toUnlike 15 = .ok (.ireturn, 1) := by decide +kernel
theorem dL_toUnlike_16 : decode cL_toUnlike 16 = .ok (.iconst 0, 1) := by decide +kernel
theorem dL_toUnlike_17 : decode cL_toUnlike 17 = .ok (.ireturn, 1) := by decide +kernel
theorem dL_toOdd_0 : decode cL_toOdd 0 = .ok (.aload_n 2, 1) := by decide +kernel
theorem dL_toOdd_1 : decode cL_toOdd 1 = .ok (.aload_n 0, 1) := by decide +kernel
theorem dL_toOdd_2 : decode cL_toOdd 2 = .ok (.iload_n 1, 1) := by decide +kernel
theorem dL_toOdd_3 : decode cL_toOdd 3 = .ok (.invokevirtual 119, 3) := by decide +kernel
theorem dL_toOdd_6 : decode cL_toOdd 6 = .ok (.i2l, 1) := by decide +kernel
theorem dL_toOdd_7 : decode cL_toOdd 7 = .ok (.putfield 13, 3) := by decide +kernel
theorem dL_toOdd_10 : decode cL_toOdd 10 = .ok (.goto 6, 3) := by decide +kernel
theorem dL_toOdd_13 : decode cL_toOdd 13 = .ok (.astore_n 3, 1) := by decide +kernel
theorem dL_toOdd_14 : decode cL_toOdd 14 = .ok (.iconst 1, 1) := by decide +kernel
theorem dL_toOdd_15 : decode cL_toOdd 15 = .ok (.ireturn, 1) := by decide +kernel
theorem dL_toOdd_16 : decode cL_toOdd 16 = .ok (.iconst 0, 1) := by decide +kernel
theorem dL_toOdd_17 : decode cL_toOdd 17 = .ok (.ireturn, 1) := by decide +kernel
theorem dL_copyDesk_0 : decode cL_copyDesk 0 = .ok (.aload_n 2, 1) := by decide +kernel
theorem dL_copyDesk_1 : decode cL_copyDesk 1 = .ok (.aload_n 0, 1) := by decide +kernel
theorem dL_copyDesk_2 : decode cL_copyDesk 2 = .ok (.iload_n 1, 1) := by decide +kernel
theorem dL_copyDesk_3 : decode cL_copyDesk 3 = .ok (.invokevirtual 122, 3) := by decide +kernel
theorem dL_copyDesk_6 : decode cL_copyDesk 6 = .ok (.i2l, 1) := by decide +kernel
theorem dL_copyDesk_7 : decode cL_copyDesk 7 = .ok (.putfield 13, 3) := by decide +kernel
theorem dL_copyDesk_10 : decode cL_copyDesk 10 = .ok (.goto 6, 3) := by decide +kernel
theorem dL_copyDesk_13 : decode cL_copyDesk 13 = .ok (.astore_n 3, 1) := by decide +kernel
theorem dL_copyDesk_14 : decode cL_copyDesk 14 = .ok (.iconst 1, 1) := by decide +kernel
theorem dL_copyDesk_15 : decode cL_copyDesk 15 = .ok (.ireturn, 1) := by decide +kernel
theorem dL_copyDesk_16 : decode cL_copyDesk 16 = .ok (.iconst 0, 1) := by decide +kernel
theorem dL_copyDesk_17 : decode cL_copyDesk 17 = .ok (.ireturn, 1) := by decide +kernel
theorem dL_times_0 : decode cL_times 0 = .ok (.aload_n 3, 1) := by decide +kernel
theorem dL_times_1 : decode cL_times 1 = .ok (.aload_n 0, 1) := by decide +kernel
theorem dL_times_2 : decode cL_times 2 = .ok (.iload_n 1, 1) := by decide +kernel
theorem dL_times_3 : decode cL_times 3 = .ok (.iload_n 2, 1) := by decide +kernel
theorem dL_times_4 : decode cL_times 4 = .ok (.invokevirtual 125, 3) := by decide +kernel
theorem dL_times_7 : decode cL_times 7 = .ok (.i2l, 1) := by decide +kernel
theorem dL_times_8 : decode cL_times 8 = .ok (.putfield 13, 3) := by decide +kernel
theorem dL_times_11 : decode cL_times 11 = .ok (.goto 11, 3) := by decide +kernel
theorem dL_times_14 : decode cL_times 14 = .ok (.astore 4, 2) := by decide +kernel
theorem dL_times_16 : decode cL_times 16 = .ok (.iconst 1, 1) := by decide +kernel
theorem dL_times_17 : decode cL_times 17 = .ok (.ireturn, 1) := by decide +kernel
theorem dL_times_18 : decode cL_times 18 = .ok (.astore 4, 2) := by decide +kernel
theorem dL_times_20 : decode cL_times 20 = .ok (.iconst 2, 1) := by decide +kernel
theorem dL_times_21 : decode cL_times 21 = .ok (.ireturn, 1) := by decide +kernel
theorem dL_times_22 : decode cL_times 22 = .ok (.iconst 0, 1) := by decide +kernel
theorem dL_times_23 : decode cL_times 23 = .ok (.ireturn, 1) := by decide +kernel
theorem dL_way_0 : decode cL_way 0 = .ok (.aload_n 3, 1) := by decide +kernel
theorem dL_way_1 : decode cL_way 1 = .ok (.aload_n 0, 1) := by decide +kernel
theorem dL_way_2 : decode cL_way 2 = .ok (.iload_n 1, 1) := by decide +kernel
theorem dL_way_3 : decode cL_way 3 = .ok (.iload_n 2, 1) := by decide +kernel
theorem dL_way_4 : decode cL_way 4 = .ok (.invokevirtual 128, 3) := by decide +kernel
theorem dL_way_7 : decode cL_way 7 = .ok (.i2l, 1) := by decide +kernel
theorem dL_way_8 : decode cL_way 8 = .ok (.putfield 13, 3) := by decide +kernel
theorem dL_way_11 : decode cL_way 11 = .ok (.goto 11, 3) := by decide +kernel
theorem dL_way_14 : decode cL_way 14 = .ok (.astore 4, 2) := by decide +kernel
theorem dL_way_16 : decode cL_way 16 = .ok (.iconst 1, 1) := by decide +kernel
theorem dL_way_17 : decode cL_way 17 = .ok (.ireturn, 1) := by decide +kernel
theorem dL_way_18 : decode cL_way 18 = .ok (.astore 4, 2) := by decide +kernel
theorem dL_way_20 : decode cL_way 20 = .ok (.iconst 2, 1) := by decide +kernel
theorem dL_way_21 : decode cL_way 21 = .ok (.ireturn, 1) := by decide +kernel
theorem dL_way_22 : decode cL_way 22 = .ok (.iconst 0, 1) := by decide +kernel
theorem dL_way_23 : decode cL_way 23 = .ok (.ireturn, 1) := by decide +kernel
theorem dL_wayText_0 : decode cL_wayText 0 = .ok (.aload_n 2, 1) := by decide +kernel
theorem dL_wayText_1 : decode cL_wayText 1 = .ok (.aload_n 0, 1) := by decide +kernel
theorem dL_wayText_2 : decode cL_wayText 2 = .ok (.iload_n 1, 1) := by decide +kernel
theorem dL_wayText_3 : decode cL_wayText 3 = .ok (.invokevirtual 131, 3) := by decide +kernel
theorem dL_wayText_6 : decode cL_wayText 6 = .ok (.putfield 135, 3) := by decide +kernel
theorem dL_wayText_9 : decode cL_wayText 9 = .ok (.goto 6, 3) := by decide +kernel
theorem dL_wayText_12 : decode cL_wayText 12 = .ok (.astore_n 3, 1) := by decide +kernel
theorem dL_wayText_13 : decode cL_wayText 13 = .ok (.iconst 1, 1) := by decide +kernel
theorem dL_wayText_14 : decode cL_wayText 14 = .ok (.ireturn, 1) := by decide +kernel
theorem dL_wayText_15 : decode cL_wayText 15 = .ok (.iconst 0, 1) := by decide +kernel
theorem dL_wayText_16 : decode cL_wayText 16 = .ok (.ireturn, 1) := by decide +kernel
theorem dL_isOf_0 : decode cL_isOf 0 = .ok (.aload 4, 2) := by decide +kernel
theorem dL_isOf_2 : decode cL_isOf 2 = .ok (.aload_n 0, 1) := by decide +kernel
theorem dL_isOf_3 : decode cL_isOf 3 = .ok (.iload_n 1, 1) := by decide +kernel
theorem dL_isOf_4 : decode cL_isOf 4 = .ok (.iload_n 2, 1) := by decide +kernel
theorem dL_isOf_5 : decode cL_isOf 5 = .ok (.iload_n 3, 1) := by decide +kernel
theorem dL_isOf_6 : decode cL_isOf 6 = .ok (.invokevirtual 139, 3) := by decide +kernel
theorem dL_isOf_9 : decode cL_isOf 9 = .ok (.ifCond .eq 7, 3) := by decide +kernel
theorem dL_isOf_12 : decode cL_isOf 12 = .ok (.lconst 1, 1) := by decide +kernel
theorem dL_isOf_13 : decode cL_isOf 13 = .ok (.goto 4, 3) := by decide +kernel
theorem dL_isOf_16 : decode cL_isOf 16 = .ok (.lconst 0, 1) := by decide +kernel
theorem dL_isOf_17 : decode cL_isOf 17 = .ok (.putfield 13, 3) := by decide +kernel
theorem dL_isOf_20 : decode cL_isOf 20 = .ok (.goto 11, 3) := by decide +kernel
theorem dL_isOf_23 : decode cL_isOf 23 = .ok (.astore 5, 2) := by decide +kernel
theorem dL_isOf_25 : decode cL_isOf 25 = .ok (.iconst 1, 1) := by decide +kernel
theorem dL_isOf_26 : decode cL_isOf 26 = .ok (.ireturn, 1) := by decide +kernel
theorem dL_isOf_27 : decode cL_isOf 27 = .ok (.astore 5, 2) := by decide +kernel
theorem dL_isOf_29 : decode cL_isOf 29 = .ok (.iconst 2, 1) := by decide +kernel
theorem dL_isOf_30 : decode cL_isOf 30 = .ok (.ireturn, 1) := by decide +kernel
theorem dL_isOf_31 : decode cL_isOf 31 = .ok (.iconst 0, 1) := by decide +kernel
theorem dL_isOf_32 : decode cL_isOf 32 = .ok (.ireturn, 1) := by decide +kernel
theorem dL_tally_0 : decode cL_tally 0 = .ok (.aload_n 2, 1) := by decide +kernel
theorem dL_tally_1 : decode cL_tally 1 = .ok (.aload_n 0, 1) := by decide +kernel
theorem dL_tally_2 : decode cL_tally 2 = .ok (.iload_n 1, 1) := by decide +kernel
theorem dL_tally_3 : decode cL_tally 3 = .ok (.invokevirtual 143, 3) := by decide +kernel
theorem dL_tally_6 : decode cL_tally 6 = .ok (.i2l, 1) := by decide +kernel
theorem dL_tally_7 : decode cL_tally 7 = .ok (.putfield 13, 3) := by decide +kernel
theorem dL_tally_10 : decode cL_tally 10 = .ok (.goto 6, 3) := by decide +kernel
theorem dL_tally_13 : decode cL_tally 13 = .ok (.astore_n 3, 1) := by decide +kernel
theorem dL_tally_14 : decode cL_tally 14 = .ok (.iconst 1, 1) := by decide +kernel
theorem dL_tally_15 : decode cL_tally 15 = .ok (.ireturn, 1) := by decide +kernel
theorem dL_tally_16 : decode cL_tally 16 = .ok (.iconst 0, 1) := by decide +kernel
theorem dL_tally_17 : decode cL_tally 17 = .ok (.ireturn, 1) := by decide +kernel
theorem dL_isSound_0 : decode cL_isSound 0 = .ok (.aload_n 2, 1) := by decide +kernel
theorem dL_isSound_1 : decode cL_isSound 1 = .ok (.aload_n 0, 1) := by decide +kernel
theorem dL_isSound_2 : decode cL_isSound 2 = .ok (.iload_n 1, 1) := by decide +kernel
theorem dL_isSound_3 : decode cL_isSound 3 = .ok (.invokevirtual 146, 3) := by decide +kernel
theorem dL_isSound_6 : decode cL_isSound 6 = .ok (.ifCond .eq 7, 3) := by decide +kernel
theorem dL_isSound_9 : decode cL_isSound 9 = .ok (.lconst 1, 1) := by decide +kernel
theorem dL_isSound_10 : decode cL_isSound 10 = .ok (.goto 4, 3) := by decide +kernel
theorem dL_isSound_13 : decode cL_isSound 13 = .ok (.lconst 0, 1) := by decide +kernel
theorem dL_isSound_14 : decode cL_isSound 14 = .ok (.putfield 13, 3) := by decide +kernel
theorem dL_isSound_17 : decode cL_isSound 17 = .ok (.goto 6, 3) := by decide +kernel
theorem dL_isSound_20 : decode cL_isSound 20 = .ok (.astore_n 3, 1) := by decide +kernel
theorem dL_isSound_21 : decode cL_isSound 21 = .ok (.iconst 1, 1) := by decide +kernel
theorem dL_isSound_22 : decode cL_isSound 22 = .ok (.ireturn, 1) := by decide +kernel
theorem dL_isSound_23 : decode cL_isSound 23 = .ok (.iconst 0, 1) := by decide +kernel
theorem dL_isSound_24 : decode cL_isSound 24 = .ok (.ireturn, 1) := by decide +kernel
theorem gdL_law_0 : (decode cL_law 0 = .ok (.new 8, 3)) ∧ (decode cL_law 3 = .ok (.dup, 1)) ∧ (decode cL_law 4 = .ok (.invokespecial 150, 3)) ∧ (decode cL_law 7 = .ok (.astore_n 1, 1)) ∧ (decode cL_law 8 = .ok (.new 151, 3)) ∧ (decode cL_law 11 = .ok (.dup, 1)) := by decide +kernel
theorem dL_law_0 : decode cL_law 0 = .ok (.new 8, 3) := gdL_law_0.1
theorem dL_law_3 : decode cL_law 3 = .ok (.dup, 1) := gdL_law_0.2.1
theorem dL_law_4 : decode cL_law 4 = .ok (.invokespecial 150, 3) := gdL_law_0.2.2.1
theorem dL_law_7 : decode cL_law 7 = .ok (.astore_n 1, 1) := gdL_law_0.2.2.2.1
theorem dL_law_8 : decode cL_law 8 = .ok (.new 151, 3) := gdL_law_0.2.2.2.2.1
theorem dL_law_11 : decode cL_law 11 = .ok (.dup, 1) := gdL_law_0.2.2.2.2.2
theorem gdL_law_12 : (decode cL_law 12 = .ok (.invokespecial 153, 3)) ∧ (decode cL_law 15 = .ok (.astore_n 2, 1)) ∧ (decode cL_law 16 = .ok (.new 14, 3)) ∧ (decode cL_law 19 = .ok (.dup, 1)) ∧ (decode cL_law 20 = .ok (.invokespecial 154, 3)) ∧ (decode cL_law 23 = .ok (.astore_n 3, 1)) := by decide +kernel
theorem dL_law_12 : decode cL_law 12 = .ok (.invokespecial 153, 3) := gdL_law_12.1
theorem dL_law_15 : decode cL_law 15 = .ok (.astore_n 2, 1) := gdL_law_12.2.1
theorem dL_law_16 : decode cL_law 16 = .ok (.new 14, 3) := gdL_law_12.2.2.1
theorem dL_law_19 : decode cL_law 19 = .ok (.dup, 1) := gdL_law_12.2.2.2.1
theorem dL_law_20 : decode cL_law 20 = .ok (.invokespecial 154, 3) := gdL_law_12.2.2.2.2.1
theorem dL_law_23 : decode cL_law 23 = .ok (.astore_n 3, 1) := gdL_law_12.2.2.2.2.2
theorem gdL_law_24 : (decode cL_law 24 = .ok (.iconst 0, 1)) ∧ (decode cL_law 25 = .ok (.istore 4, 2)) ∧ (decode cL_law 27 = .ok (.iload 4, 2)) ∧ (decode cL_law 29 = .ok (.aload_n 0, 1)) ∧ (decode cL_law 30 = .ok (.arraylength, 1)) ∧ (decode cL_law 31 = .ok (.bipush 6, 2)) := by decide +kernel
theorem dL_law_24 : decode cL_law 24 = .ok (.iconst 0, 1) := gdL_law_24.1
theorem dL_law_25 : decode cL_law 25 = .ok (.istore 4, 2) := gdL_law_24.2.1
theorem dL_law_27 : decode cL_law 27 = .ok (.iload 4, 2) := gdL_law_24.2.2.1
theorem dL_law_29 : decode cL_law 29 = .ok (.aload_n 0, 1) := gdL_law_24.2.2.2.1
theorem dL_law_30 : decode cL_law 30 = .ok (.arraylength, 1) := gdL_law_24.2.2.2.2.1
theorem dL_law_31 : decode cL_law 31 = .ok (.bipush 6, 2) := gdL_law_24.2.2.2.2.2
theorem gdL_law_33 : (decode cL_law 33 = .ok (.isub, 1)) ∧ (decode cL_law 34 = .ok (.if_icmp .gt 2056, 3)) ∧ (decode cL_law 37 = .ok (.aload_n 0, 1)) ∧ (decode cL_law 38 = .ok (.iload 4, 2)) ∧ (decode cL_law 40 = .ok (.iaload, 1)) ∧ (decode cL_law 41 = .ok (.bipush 63, 2)) := by decide +kernel
theorem dL_law_33 : decode cL_law 33 = .ok (.isub, 1) := gdL_law_33.1
theorem dL_law_34 : decode cL_law 34 = .ok (.if_icmp .gt 2056, 3) := gdL_law_33.2.1
theorem dL_law_37 : decode cL_law 37 = .ok (.aload_n 0, 1) := gdL_law_33.2.2.1
theorem dL_law_38 : decode cL_law 38 = .ok (.iload 4, 2) := gdL_law_33.2.2.2.1
theorem dL_law_40 : decode cL_law 40 = .ok (.iaload, 1) := gdL_law_33.2.2.2.2.1
theorem dL_law_41 : decode cL_law 41 = .ok (.bipush 63, 2) := gdL_law_33.2.2.2.2.2
theorem gdL_law_43 : (decode cL_law 43 = .ok (.iand, 1)) ∧ (decode cL_law 44 = .ok (.tableswitch 2040 0 41 #[184, 248, 300, 369, 409, 473, 537, 601, 677, 729, 757, 797, 837, 913, 989, 1065, 1105, 1145, 1197, 1237, 1289, 1341, 1381, 1421, 1461, 1513, 1565, 1605, 1645, 1673, 1701, 1729, 1757, 1785, 1825, 1865, 1893, 1945, 1958, 1986, 1999, 2027], 184)) ∧ (decode cL_law 228 = .ok (.aload_n 1, 1)) ∧ (decode cL_law 229 = .ok (.aload_n 0, 1)) ∧ (decode cL_law 230 = .ok (.iload 4, 2)) ∧ (decode cL_law 232 = .ok (.iconst 1, 1)) := by decide +kernel
theorem dL_law_43 : decode cL_law 43 = .ok (.iand, 1) := gdL_law_43.1
theorem dL_law_44 : decode cL_law 44 = .ok (.tableswitch 2040 0 41 #[184, 248, 300, 369, 409, 473, 537, 601, 677, 729, 757, 797, 837, 913, 989, 1065, 1105, 1145, 1197, 1237, 1289, 1341, 1381, 1421, 1461, 1513, 1565, 1605, 1645, 1673, 1701, 1729, 1757, 1785, 1825, 1865, 1893, 1945, 1958, 1986, 1999, 2027], 184) := gdL_law_43.2.1
theorem dL_law_228 : decode cL_law 228 = .ok (.aload_n 1, 1) := gdL_law_43.2.2.1
theorem dL_law_229 : decode cL_law 229 = .ok (.aload_n 0, 1) := gdL_law_43.2.2.2.1
theorem dL_law_230 : decode cL_law 230 = .ok (.iload 4, 2) := gdL_law_43.2.2.2.2.1
theorem dL_law_232 : decode cL_law 232 = .ok (.iconst 1, 1) := gdL_law_43.2.2.2.2.2
theorem gdL_law_233 : (decode cL_law 233 = .ok (.iadd, 1)) ∧ (decode cL_law 234 = .ok (.iaload, 1)) ∧ (decode cL_law 235 = .ok (.aload_n 0, 1)) ∧ (decode cL_law 236 = .ok (.iload 4, 2)) ∧ (decode cL_law 238 = .ok (.iconst 2, 1)) ∧ (decode cL_law 239 = .ok (.iadd, 1)) := by decide +kernel
theorem dL_law_233 : decode cL_law 233 = .ok (.iadd, 1) := gdL_law_233.1
theorem dL_law_234 : decode cL_law 234 = .ok (.iaload, 1) := gdL_law_233.2.1
theorem dL_law_235 : decode cL_law 235 = .ok (.aload_n 0, 1) := gdL_law_233.2.2.1
theorem dL_law_236 : decode cL_law 236 = .ok (.iload 4, 2) := gdL_law_233.2.2.2.1
theorem dL_law_238 : decode cL_law 238 = .ok (.iconst 2, 1) := gdL_law_233.2.2.2.2.1
theorem dL_law_239 : decode cL_law 239 = .ok (.iadd, 1) := gdL_law_233.2.2.2.2.2
theorem gdL_law_240 : (decode cL_law 240 = .ok (.iaload, 1)) ∧ (decode cL_law 241 = .ok (.aload_n 0, 1)) ∧ (decode cL_law 242 = .ok (.iload 4, 2)) ∧ (decode cL_law 244 = .ok (.iconst 3, 1)) ∧ (decode cL_law 245 = .ok (.iadd, 1)) ∧ (decode cL_law 246 = .ok (.iaload, 1)) := by decide +kernel
theorem dL_law_240 : decode cL_law 240 = .ok (.iaload, 1) := gdL_law_240.1
theorem dL_law_241 : decode cL_law 241 = .ok (.aload_n 0, 1) := gdL_law_240.2.1
theorem dL_law_242 : decode cL_law 242 = .ok (.iload 4, 2) := gdL_law_240.2.2.1
theorem dL_law_244 : decode cL_law 244 = .ok (.iconst 3, 1) := gdL_law_240.2.2.2.1
theorem dL_law_245 : decode cL_law 245 = .ok (.iadd, 1) := gdL_law_240.2.2.2.2.1
theorem dL_law_246 : decode cL_law 246 = .ok (.iaload, 1) := gdL_law_240.2.2.2.2.2
theorem gdL_law_247 : (decode cL_law 247 = .ok (.aload_n 0, 1)) ∧ (decode cL_law 248 = .ok (.iload 4, 2)) ∧ (decode cL_law 250 = .ok (.iconst 4, 1)) ∧ (decode cL_law 251 = .ok (.iadd, 1)) ∧ (decode cL_law 252 = .ok (.iaload, 1)) ∧ (decode cL_law 253 = .ok (.aload_n 3, 1)) := by decide +kernel
theorem dL_law_247 : decode cL_law 247 = .ok (.aload_n 0, 1) := gdL_law_247.1
theorem dL_law_248 : decode cL_law 248 = .ok (.iload 4, 2) := gdL_law_247.2.1
theorem dL_law_250 : decode cL_law 250 = .ok (.iconst 4, 1) := gdL_law_247.2.2.1
theorem dL_law_251 : decode cL_law 251 = .ok (.iadd, 1) := gdL_law_247.2.2.2.1
theorem dL_law_252 : decode cL_law 252 = .ok (.iaload, 1) := gdL_law_247.2.2.2.2.1
theorem dL_law_253 : decode cL_law 253 = .ok (.aload_n 3, 1) := gdL_law_247.2.2.2.2.2
theorem gdL_law_254 : (decode cL_law 254 = .ok (.invokestatic 155, 3)) ∧ (decode cL_law 257 = .ok (.istore 5, 2)) ∧ (decode cL_law 259 = .ok (.aload_n 2, 1)) ∧ (decode cL_law 260 = .ok (.aload_n 0, 1)) ∧ (decode cL_law 261 = .ok (.iload 4, 2)) ∧ (decode cL_law 263 = .ok (.iconst 1, 1)) := by decide +kernel
theorem dL_law_254 : decode cL_law 254 = .ok (.invokestatic 155, 3) := gdL_law_254.1
theorem dL_law_257 : decode cL_law 257 = .ok (.istore 5, 2) := gdL_law_254.2.1
theorem dL_law_259 : decode cL_law 259 = .ok (.aload_n 2, 1) := gdL_law_254.2.2.1
theorem dL_law_260 : decode cL_law 260 = .ok (.aload_n 0, 1) := gdL_law_254.2.2.2.1
theorem dL_law_261 : decode cL_law 261 = .ok (.iload 4, 2) := gdL_law_254.2.2.2.2.1
theorem dL_law_263 : decode cL_law 263 = .ok (.iconst 1, 1) := gdL_law_254.2.2.2.2.2
theorem gdL_law_264 : (decode cL_law 264 = .ok (.iadd, 1)) ∧ (decode cL_law 265 = .ok (.iaload, 1)) ∧ (decode cL_law 266 = .ok (.aload_n 0, 1)) ∧ (decode cL_law 267 = .ok (.iload 4, 2)) ∧ (decode cL_law 269 = .ok (.iconst 2, 1)) ∧ (decode cL_law 270 = .ok (.iadd, 1)) := by decide +kernel
theorem dL_law_264 : decode cL_law 264 = .ok (.iadd, 1) := gdL_law_264.1
theorem dL_law_265 : decode cL_law 265 = .ok (.iaload, 1) := gdL_law_264.2.1
theorem dL_law_266 : decode cL_law 266 = .ok (.aload_n 0, 1) := gdL_law_264.2.2.1
theorem dL_law_267 : decode cL_law 267 = .ok (.iload 4, 2) := gdL_law_264.2.2.2.1
theorem dL_law_269 : decode cL_law 269 = .ok (.iconst 2, 1) := gdL_law_264.2.2.2.2.1
theorem dL_law_270 : decode cL_law 270 = .ok (.iadd, 1) := gdL_law_264.2.2.2.2.2
theorem gdL_law_271 : (decode cL_law 271 = .ok (.iaload, 1)) ∧ (decode cL_law 272 = .ok (.aload_n 0, 1)) ∧ (decode cL_law 273 = .ok (.iload 4, 2)) ∧ (decode cL_law 275 = .ok (.iconst 3, 1)) ∧ (decode cL_law 276 = .ok (.iadd, 1)) ∧ (decode cL_law 277 = .ok (.iaload, 1)) := by decide +kernel
theorem dL_law_271 : decode cL_law 271 = .ok (.iaload, 1) := gdL_law_271.1
theorem dL_law_272 : decode cL_law 272 = .ok (.aload_n 0, 1) := gdL_law_271.2.1
theorem dL_law_273 : decode cL_law 273 = .ok (.iload 4, 2) := gdL_law_271.2.2.1
theorem dL_law_275 : decode cL_law 275 = .ok (.iconst 3, 1) := gdL_law_271.2.2.2.1
theorem dL_law_276 : decode cL_law 276 = .ok (.iadd, 1) := gdL_law_271.2.2.2.2.1
theorem dL_law_277 : decode cL_law 277 = .ok (.iaload, 1) := gdL_law_271.2.2.2.2.2
theorem gdL_law_278 : (decode cL_law 278 = .ok (.aload_n 0, 1)) ∧ (decode cL_law 279 = .ok (.iload 4, 2)) ∧ (decode cL_law 281 = .ok (.iconst 4, 1)) ∧ (decode cL_law 282 = .ok (.iadd, 1)) ∧ (decode cL_law 283 = .ok (.iaload, 1)) ∧ (decode cL_law 284 = .ok (.invokevirtual 160, 3)) := by decide +kernel
theorem dL_law_278 : decode cL_law 278 = .ok (.aload_n 0, 1) := gdL_law_278.1
theorem dL_law_279 : decode cL_law 279 = .ok (.iload 4, 2) := gdL_law_278.2.1
theorem dL_law_281 : decode cL_law 281 = .ok (.iconst 4, 1) := gdL_law_278.2.2.1
theorem dL_law_282 : decode cL_law 282 = .ok (.iadd, 1) := gdL_law_278.2.2.2.1
theorem dL_law_283 : decode cL_law 283 = .ok (.iaload, 1) := gdL_law_278.2.2.2.2.1
theorem dL_law_284 : decode cL_law 284 = .ok (.invokevirtual 160, 3) := gdL_law_278.2.2.2.2.2
theorem gdL_law_287 : (decode cL_law 287 = .ok (.istore 6, 2)) ∧ (decode cL_law 289 = .ok (.goto 1795, 3)) ∧ (decode cL_law 292 = .ok (.aload_n 1, 1)) ∧ (decode cL_law 293 = .ok (.aload_n 0, 1)) ∧ (decode cL_law 294 = .ok (.iload 4, 2)) ∧ (decode cL_law 296 = .ok (.iconst 1, 1)) := by decide +kernel
theorem dL_law_287 : decode cL_law 287 = .ok (.istore 6, 2) := gdL_law_287.1
theorem dL_law_289 : decode cL_law 289 = .ok (.goto 1795, 3) := gdL_law_287.2.1
theorem dL_law_292 : decode cL_law 292 = .ok (.aload_n 1, 1) := gdL_law_287.2.2.1
theorem dL_law_293 : decode cL_law 293 = .ok (.aload_n 0, 1) := gdL_law_287.2.2.2.1
theorem dL_law_294 : decode cL_law 294 = .ok (.iload 4, 2) := gdL_law_287.2.2.2.2.1
theorem dL_law_296 : decode cL_law 296 = .ok (.iconst 1, 1) := gdL_law_287.2.2.2.2.2
theorem gdL_law_297 : (decode cL_law 297 = .ok (.iadd, 1)) ∧ (decode cL_law 298 = .ok (.iaload, 1)) ∧ (decode cL_law 299 = .ok (.aload_n 0, 1)) ∧ (decode cL_law 300 = .ok (.iload 4, 2)) ∧ (decode cL_law 302 = .ok (.iconst 2, 1)) ∧ (decode cL_law 303 = .ok (.iadd, 1)) := by decide +kernel
theorem dL_law_297 : decode cL_law 297 = .ok (.iadd, 1) := gdL_law_297.1
theorem dL_law_298 : decode cL_law 298 = .ok (.iaload, 1) := gdL_law_297.2.1
theorem dL_law_299 : decode cL_law 299 = .ok (.aload_n 0, 1) := gdL_law_297.2.2.1
theorem dL_law_300 : decode cL_law 300 = .ok (.iload 4, 2) := gdL_law_297.2.2.2.1
theorem dL_law_302 : decode cL_law 302 = .ok (.iconst 2, 1) := gdL_law_297.2.2.2.2.1
theorem dL_law_303 : decode cL_law 303 = .ok (.iadd, 1) := gdL_law_297.2.2.2.2.2
theorem gdL_law_304 : (decode cL_law 304 = .ok (.iaload, 1)) ∧ (decode cL_law 305 = .ok (.aload_n 0, 1)) ∧ (decode cL_law 306 = .ok (.iload 4, 2)) ∧ (decode cL_law 308 = .ok (.iconst 3, 1)) ∧ (decode cL_law 309 = .ok (.iadd, 1)) ∧ (decode cL_law 310 = .ok (.iaload, 1)) := by decide +kernel
theorem dL_law_304 : decode cL_law 304 = .ok (.iaload, 1) := gdL_law_304.1
theorem dL_law_305 : decode cL_law 305 = .ok (.aload_n 0, 1) := gdL_law_304.2.1
theorem dL_law_306 : decode cL_law 306 = .ok (.iload 4, 2) := gdL_law_304.2.2.1
theorem dL_law_308 : decode cL_law 308 = .ok (.iconst 3, 1) := gdL_law_304.2.2.2.1
theorem dL_law_309 : decode cL_law 309 = .ok (.iadd, 1) := gdL_law_304.2.2.2.2.1
theorem dL_law_310 : decode cL_law 310 = .ok (.iaload, 1) := gdL_law_304.2.2.2.2.2
theorem gdL_law_311 : (decode cL_law 311 = .ok (.aload_n 3, 1)) ∧ (decode cL_law 312 = .ok (.invokestatic 161, 3)) ∧ (decode cL_law 315 = .ok (.istore 5, 2)) ∧ (decode cL_law 317 = .ok (.aload_n 2, 1)) ∧ (decode cL_law 318 = .ok (.aload_n 0, 1)) ∧ (decode cL_law 319 = .ok (.iload 4, 2)) := by decide +kernel
theorem dL_law_311 : decode cL_law 311 = .ok (.aload_n 3, 1) := gdL_law_311.1
theorem dL_law_312 : decode cL_law 312 = .ok (.invokestatic 161, 3) := gdL_law_311.2.1
theorem dL_law_315 : decode cL_law 315 = .ok (.istore 5, 2) := gdL_law_311.2.2.1
theorem dL_law_317 : decode cL_law 317 = .ok (.aload_n 2, 1) := gdL_law_311.2.2.2.1
theorem dL_law_318 : decode cL_law 318 = .ok (.aload_n 0, 1) := gdL_law_311.2.2.2.2.1
theorem dL_law_319 : decode cL_law 319 = .ok (.iload 4, 2) := gdL_law_311.2.2.2.2.2
theorem gdL_law_321 : (decode cL_law 321 = .ok (.iconst 1, 1)) ∧ (decode cL_law 322 = .ok (.iadd, 1)) ∧ (decode cL_law 323 = .ok (.iaload, 1)) ∧ (decode cL_law 324 = .ok (.aload_n 0, 1)) ∧ (decode cL_law 325 = .ok (.iload 4, 2)) ∧ (decode cL_law 327 = .ok (.iconst 2, 1)) := by decide +kernel
theorem dL_law_321 : decode cL_law 321 = .ok (.iconst 1, 1) := gdL_law_321.1
theorem dL_law_322 : decode cL_law 322 = .ok (.iadd, 1) := gdL_law_321.2.1
theorem dL_law_323 : decode cL_law 323 = .ok (.iaload, 1) := gdL_law_321.2.2.1
theorem dL_law_324 : decode cL_law 324 = .ok (.aload_n 0, 1) := gdL_law_321.2.2.2.1
theorem dL_law_325 : decode cL_law 325 = .ok (.iload 4, 2) := gdL_law_321.2.2.2.2.1
theorem dL_law_327 : decode cL_law 327 = .ok (.iconst 2, 1) := gdL_law_321.2.2.2.2.2
theorem gdL_law_328 : (decode cL_law 328 = .ok (.iadd, 1)) ∧ (decode cL_law 329 = .ok (.iaload, 1)) ∧ (decode cL_law 330 = .ok (.aload_n 0, 1)) ∧ (decode cL_law 331 = .ok (.iload 4, 2)) ∧ (decode cL_law 333 = .ok (.iconst 3, 1)) ∧ (decode cL_law 334 = .ok (.iadd, 1)) := by decide +kernel
theorem dL_law_328 : decode cL_law 328 = .ok (.iadd, 1) := gdL_law_328.1
theorem dL_law_329 : decode cL_law 329 = .ok (.iaload, 1) := gdL_law_328.2.1
theorem dL_law_330 : decode cL_law 330 = .ok (.aload_n 0, 1) := gdL_law_328.2.2.1
theorem dL_law_331 : decode cL_law 331 = .ok (.iload 4, 2) := gdL_law_328.2.2.2.1
theorem dL_law_333 : decode cL_law 333 = .ok (.iconst 3, 1) := gdL_law_328.2.2.2.2.1
theorem dL_law_334 : decode cL_law 334 = .ok (.iadd, 1) := gdL_law_328.2.2.2.2.2
theorem gdL_law_335 : (decode cL_law 335 = .ok (.iaload, 1)) ∧ (decode cL_law 336 = .ok (.invokevirtual 164, 3)) ∧ (decode cL_law 339 = .ok (.istore 6, 2)) ∧ (decode cL_law 341 = .ok (.goto 1743, 3)) ∧ (decode cL_law 344 = .ok (.aload_n 1, 1)) ∧ (decode cL_law 345 = .ok (.aload_n 0, 1)) := by decide +kernel
theorem dL_law_335 : decode cL_law 335 = .ok (.iaload, 1) := gdL_law_335.1
theorem dL_law_336 : decode cL_law 336 = .ok (.invokevirtual 164, 3) := gdL_law_335.2.1
theorem dL_law_339 : decode cL_law 339 = .ok (.istore 6, 2) := gdL_law_335.2.2.1
theorem dL_law_341 : decode cL_law 341 = .ok (.goto 1743, 3) := gdL_law_335.2.2.2.1
theorem dL_law_344 : decode cL_law 344 = .ok (.aload_n 1, 1) := gdL_law_335.2.2.2.2.1
theorem dL_law_345 : decode cL_law 345 = .ok (.aload_n 0, 1) := gdL_law_335.2.2.2.2.2
theorem gdL_law_346 : (decode cL_law 346 = .ok (.iload 4, 2)) ∧ (decode cL_law 348 = .ok (.iconst 1, 1)) ∧ (decode cL_law 349 = .ok (.iadd, 1)) ∧ (decode cL_law 350 = .ok (.iaload, 1)) ∧ (decode cL_law 351 = .ok (.aload_n 0, 1)) ∧ (decode cL_law 352 = .ok (.iload 4, 2)) := by decide +kernel
theorem dL_law_346 : decode cL_law 346 = .ok (.iload 4, 2) := gdL_law_346.1
theorem dL_law_348 : decode cL_law 348 = .ok (.iconst 1, 1) := gdL_law_346.2.1
theorem dL_law_349 : decode cL_law 349 = .ok (.iadd, 1) := gdL_law_346.2.2.1
theorem dL_law_350 : decode cL_law 350 = .ok (.iaload, 1) := gdL_law_346.2.2.2.1
theorem dL_law_351 : decode cL_law 351 = .ok (.aload_n 0, 1) := gdL_law_346.2.2.2.2.1
theorem dL_law_352 : decode cL_law 352 = .ok (.iload 4, 2) := gdL_law_346.2.2.2.2.2
theorem gdL_law_354 : (decode cL_law 354 = .ok (.iconst 2, 1)) ∧ (decode cL_law 355 = .ok (.iadd, 1)) ∧ (decode cL_law 356 = .ok (.iaload, 1)) ∧ (decode cL_law 357 = .ok (.aload_n 3, 1)) ∧ (decode cL_law 358 = .ok (.invokestatic 165, 3)) ∧ (decode cL_law 361 = .ok (.istore 5, 2)) := by decide +kernel
theorem dL_law_354 : decode cL_law 354 = .ok (.iconst 2, 1) := gdL_law_354.1
theorem dL_law_355 : decode cL_law 355 = .ok (.iadd, 1) := gdL_law_354.2.1
theorem dL_law_356 : decode cL_law 356 = .ok (.iaload, 1) := gdL_law_354.2.2.1
theorem dL_law_357 : decode cL_law 357 = .ok (.aload_n 3, 1) := gdL_law_354.2.2.2.1
theorem dL_law_358 : decode cL_law 358 = .ok (.invokestatic 165, 3) := gdL_law_354.2.2.2.2.1
theorem dL_law_361 : decode cL_law 361 = .ok (.istore 5, 2) := gdL_law_354.2.2.2.2.2
theorem gdL_law_363 : (decode cL_law 363 = .ok (.aload_n 2, 1)) ∧ (decode cL_law 364 = .ok (.aload_n 0, 1)) ∧ (decode cL_law 365 = .ok (.iload 4, 2)) ∧ (decode cL_law 367 = .ok (.iconst 1, 1)) ∧ (decode cL_law 368 = .ok (.iadd, 1)) ∧ (decode cL_law 369 = .ok (.iaload, 1)) := by decide +kernel
theorem dL_law_363 : decode cL_law 363 = .ok (.aload_n 2, 1) := gdL_law_363.1
theorem dL_law_364 : decode cL_law 364 = .ok (.aload_n 0, 1) := gdL_law_363.2.1
theorem dL_law_365 : decode cL_law 365 = .ok (.iload 4, 2) := gdL_law_363.2.2.1
theorem dL_law_367 : decode cL_law 367 = .ok (.iconst 1, 1) := gdL_law_363.2.2.2.1
theorem dL_law_368 : decode cL_law 368 = .ok (.iadd, 1) := gdL_law_363.2.2.2.2.1
theorem dL_law_369 : decode cL_law 369 = .ok (.iaload, 1) := gdL_law_363.2.2.2.2.2
theorem gdL_law_370 : (decode cL_law 370 = .ok (.aload_n 0, 1)) ∧ (decode cL_law 371 = .ok (.iload 4, 2)) ∧ (decode cL_law 373 = .ok (.iconst 2, 1)) ∧ (decode cL_law 374 = .ok (.iadd, 1)) ∧ (decode cL_law 375 = .ok (.iaload, 1)) ∧ (decode cL_law 376 = .ok (.invokevirtual 168, 3)) := by decide +kernel
theorem dL_law_370 : decode cL_law 370 = .ok (.aload_n 0, 1) := gdL_law_370.1
theorem dL_law_371 : decode cL_law 371 = .ok (.iload 4, 2) := gdL_law_370.2.1
theorem dL_law_373 : decode cL_law 373 = .ok (.iconst 2, 1) := gdL_law_370.2.2.1
theorem dL_law_374 : decode cL_law 374 = .ok (.iadd, 1) := gdL_law_370.2.2.2.1
theorem dL_law_375 : decode cL_law 375 = .ok (.iaload, 1) := gdL_law_370.2.2.2.2.1
theorem dL_law_376 : decode cL_law 376 = .ok (.invokevirtual 168, 3) := gdL_law_370.2.2.2.2.2
theorem gdL_law_379 : (decode cL_law 379 = .ok (.istore 6, 2)) ∧ (decode cL_law 381 = .ok (.aload_n 2, 1)) ∧ (decode cL_law 382 = .ok (.invokevirtual 169, 3)) ∧ (decode cL_law 385 = .ok (.iload 5, 2)) ∧ (decode cL_law 387 = .ok (.if_icmp .eq 5, 3)) ∧ (decode cL_law 390 = .ok (.iconst 0, 1)) := by decide +kernel
theorem dL_law_379 : decode cL_law 379 = .ok (.istore 6, 2) := gdL_law_379.1
theorem dL_law_381 : decode cL_law 381 = .ok (.aload_n 2, 1) := gdL_law_379.2.1
theorem dL_law_382 : decode cL_law 382 = .ok (.invokevirtual 169, 3) := gdL_law_379.2.2.1
theorem dL_law_385 : decode cL_law 385 = .ok (.iload 5, 2) := gdL_law_379.2.2.2.1
theorem dL_law_387 : decode cL_law 387 = .ok (.if_icmp .eq 5, 3) := gdL_law_379.2.2.2.2.1
theorem dL_law_390 : decode cL_law 390 = .ok (.iconst 0, 1) := gdL_law_379.2.2.2.2.2
theorem gdL_law_391 : (decode cL_law 391 = .ok (.ireturn, 1)) ∧ (decode cL_law 392 = .ok (.iload 5, 2)) ∧ (decode cL_law 394 = .ok (.ifCond .ne 16, 3)) ∧ (decode cL_law 397 = .ok (.aload_n 3, 1)) ∧ (decode cL_law 398 = .ok (.getfield 13, 3)) ∧ (decode cL_law 401 = .ok (.iload 6, 2)) := by decide +kernel
theorem dL_law_391 : decode cL_law 391 = .ok (.ireturn, 1) := gdL_law_391.1
theorem dL_law_392 : decode cL_law 392 = .ok (.iload 5, 2) := gdL_law_391.2.1
theorem dL_law_394 : decode cL_law 394 = .ok (.ifCond .ne 16, 3) := gdL_law_391.2.2.1
theorem dL_law_397 : decode cL_law 397 = .ok (.aload_n 3, 1) := gdL_law_391.2.2.2.1
theorem dL_law_398 : decode cL_law 398 = .ok (.getfield 13, 3) := gdL_law_391.2.2.2.2.1
theorem dL_law_401 : decode cL_law 401 = .ok (.iload 6, 2) := gdL_law_391.2.2.2.2.2
theorem gdL_law_403 : (decode cL_law 403 = .ok (.i2l, 1)) ∧ (decode cL_law 404 = .ok (.lcmp, 1)) ∧ (decode cL_law 405 = .ok (.ifCond .eq 5, 3)) ∧ (decode cL_law 408 = .ok (.iconst 0, 1)) ∧ (decode cL_law 409 = .ok (.ireturn, 1)) ∧ (decode cL_law 410 = .ok (.goto 1674, 3)) := by decide +kernel
theorem dL_law_403 : decode cL_law 403 = .ok (.i2l, 1) := gdL_law_403.1
theorem dL_law_404 : decode cL_law 404 = .ok (.lcmp, 1) := gdL_law_403.2.1
theorem dL_law_405 : decode cL_law 405 = .ok (.ifCond .eq 5, 3) := gdL_law_403.2.2.1
theorem dL_law_408 : decode cL_law 408 = .ok (.iconst 0, 1) := gdL_law_403.2.2.2.1
theorem dL_law_409 : decode cL_law 409 = .ok (.ireturn, 1) := gdL_law_403.2.2.2.2.1
theorem dL_law_410 : decode cL_law 410 = .ok (.goto 1674, 3) := gdL_law_403.2.2.2.2.2
theorem gdL_law_413 : (decode cL_law 413 = .ok (.aload_n 1, 1)) ∧ (decode cL_law 414 = .ok (.aload_n 0, 1)) ∧ (decode cL_law 415 = .ok (.iload 4, 2)) ∧ (decode cL_law 417 = .ok (.iconst 1, 1)) ∧ (decode cL_law 418 = .ok (.iadd, 1)) ∧ (decode cL_law 419 = .ok (.iaload, 1)) := by decide +kernel
theorem dL_law_413 : decode cL_law 413 = .ok (.aload_n 1, 1) := gdL_law_413.1
theorem dL_law_414 : decode cL_law 414 = .ok (.aload_n 0, 1) := gdL_law_413.2.1
theorem dL_law_415 : decode cL_law 415 = .ok (.iload 4, 2) := gdL_law_413.2.2.1
theorem dL_law_417 : decode cL_law 417 = .ok (.iconst 1, 1) := gdL_law_413.2.2.2.1
theorem dL_law_418 : decode cL_law 418 = .ok (.iadd, 1) := gdL_law_413.2.2.2.2.1
theorem dL_law_419 : decode cL_law 419 = .ok (.iaload, 1) := gdL_law_413.2.2.2.2.2
theorem gdL_law_420 : (decode cL_law 420 = .ok (.aload_n 0, 1)) ∧ (decode cL_law 421 = .ok (.iload 4, 2)) ∧ (decode cL_law 423 = .ok (.iconst 2, 1)) ∧ (decode cL_law 424 = .ok (.iadd, 1)) ∧ (decode cL_law 425 = .ok (.iaload, 1)) ∧ (decode cL_law 426 = .ok (.aload_n 3, 1)) := by decide +kernel
theorem dL_law_420 : decode cL_law 420 = .ok (.aload_n 0, 1) := gdL_law_420.1
theorem dL_law_421 : decode cL_law 421 = .ok (.iload 4, 2) := gdL_law_420.2.1
theorem dL_law_423 : decode cL_law 423 = .ok (.iconst 2, 1) := gdL_law_420.2.2.1
theorem dL_law_424 : decode cL_law 424 = .ok (.iadd, 1) := gdL_law_420.2.2.2.1
theorem dL_law_425 : decode cL_law 425 = .ok (.iaload, 1) := gdL_law_420.2.2.2.2.1
theorem dL_law_426 : decode cL_law 426 = .ok (.aload_n 3, 1) := gdL_law_420.2.2.2.2.2
theorem gdL_law_427 : (decode cL_law 427 = .ok (.invokestatic 173, 3)) ∧ (decode cL_law 430 = .ok (.istore 5, 2)) ∧ (decode cL_law 432 = .ok (.aload_n 2, 1)) ∧ (decode cL_law 433 = .ok (.aload_n 0, 1)) ∧ (decode cL_law 434 = .ok (.iload 4, 2)) ∧ (decode cL_law 436 = .ok (.iconst 1, 1)) := by decide +kernel
theorem dL_law_427 : decode cL_law 427 = .ok (.invokestatic 173, 3) := gdL_law_427.1
theorem dL_law_430 : decode cL_law 430 = .ok (.istore 5, 2) := gdL_law_427.2.1
theorem dL_law_432 : decode cL_law 432 = .ok (.aload_n 2, 1) := gdL_law_427.2.2.1
theorem dL_law_433 : decode cL_law 433 = .ok (.aload_n 0, 1) := gdL_law_427.2.2.2.1
theorem dL_law_434 : decode cL_law 434 = .ok (.iload 4, 2) := gdL_law_427.2.2.2.2.1
theorem dL_law_436 : decode cL_law 436 = .ok (.iconst 1, 1) := gdL_law_427.2.2.2.2.2
theorem gdL_law_437 : (decode cL_law 437 = .ok (.iadd, 1)) ∧ (decode cL_law 438 = .ok (.iaload, 1)) ∧ (decode cL_law 439 = .ok (.aload_n 0, 1)) ∧ (decode cL_law 440 = .ok (.iload 4, 2)) ∧ (decode cL_law 442 = .ok (.iconst 2, 1)) ∧ (decode cL_law 443 = .ok (.iadd, 1)) := by decide +kernel
theorem dL_law_437 : decode cL_law 437 = .ok (.iadd, 1) := gdL_law_437.1
theorem dL_law_438 : decode cL_law 438 = .ok (.iaload, 1) := gdL_law_437.2.1
theorem dL_law_439 : decode cL_law 439 = .ok (.aload_n 0, 1) := gdL_law_437.2.2.1
theorem dL_law_440 : decode cL_law 440 = .ok (.iload 4, 2) := gdL_law_437.2.2.2.1
theorem dL_law_442 : decode cL_law 442 = .ok (.iconst 2, 1) := gdL_law_437.2.2.2.2.1
theorem dL_law_443 : decode cL_law 443 = .ok (.iadd, 1) := gdL_law_437.2.2.2.2.2
theorem gdL_law_444 : (decode cL_law 444 = .ok (.iaload, 1)) ∧ (decode cL_law 445 = .ok (.invokevirtual 175, 3)) ∧ (decode cL_law 448 = .ok (.istore 6, 2)) ∧ (decode cL_law 450 = .ok (.goto 1634, 3)) ∧ (decode cL_law 453 = .ok (.aload_n 1, 1)) ∧ (decode cL_law 454 = .ok (.aload_n 0, 1)) := by decide +kernel
theorem dL_law_444 : decode cL_law 444 = .ok (.iaload, 1) := gdL_law_444.1
theorem dL_law_445 : decode cL_law 445 = .ok (.invokevirtual 175, 3) := gdL_law_444.2.1
theorem dL_law_448 : decode cL_law 448 = .ok (.istore 6, 2) := gdL_law_444.2.2.1
theorem dL_law_450 : decode cL_law 450 = .ok (.goto 1634, 3) := gdL_law_444.2.2.2.1
theorem dL_law_453 : decode cL_law 453 = .ok (.aload_n 1, 1) := gdL_law_444.2.2.2.2.1
theorem dL_law_454 : decode cL_law 454 = .ok (.aload_n 0, 1) := gdL_law_444.2.2.2.2.2
theorem gdL_law_455 : (decode cL_law 455 = .ok (.iload 4, 2)) ∧ (decode cL_law 457 = .ok (.iconst 1, 1)) ∧ (decode cL_law 458 = .ok (.iadd, 1)) ∧ (decode cL_law 459 = .ok (.iaload, 1)) ∧ (decode cL_law 460 = .ok (.aload_n 0, 1)) ∧ (decode cL_law 461 = .ok (.iload 4, 2)) := by decide +kernel
theorem dL_law_455 : decode cL_law 455 = .ok (.iload 4, 2) := gdL_law_455.1
theorem dL_law_457 : decode cL_law 457 = .ok (.iconst 1, 1) := gdL_law_455.2.1
theorem dL_law_458 : decode cL_law 458 = .ok (.iadd, 1) := gdL_law_455.2.2.1
theorem dL_law_459 : decode cL_law 459 = .ok (.iaload, 1) := gdL_law_455.2.2.2.1
theorem dL_law_460 : decode cL_law 460 = .ok (.aload_n 0, 1) := gdL_law_455.2.2.2.2.1
theorem dL_law_461 : decode cL_law 461 = .ok (.iload 4, 2) := gdL_law_455.2.2.2.2.2
theorem gdL_law_463 : (decode cL_law 463 = .ok (.iconst 2, 1)) ∧ (decode cL_law 464 = .ok (.iadd, 1)) ∧ (decode cL_law 465 = .ok (.iaload, 1)) ∧ (decode cL_law 466 = .ok (.aload_n 0, 1)) ∧ (decode cL_law 467 = .ok (.iload 4, 2)) ∧ (decode cL_law 469 = .ok (.iconst 3, 1)) := by decide +kernel
theorem dL_law_463 : decode cL_law 463 = .ok (.iconst 2, 1) := gdL_law_463.1
theorem dL_law_464 : decode cL_law 464 = .ok (.iadd, 1) := gdL_law_463.2.1
theorem dL_law_465 : decode cL_law 465 = .ok (.iaload, 1) := gdL_law_463.2.2.1
theorem dL_law_466 : decode cL_law 466 = .ok (.aload_n 0, 1) := gdL_law_463.2.2.2.1
theorem dL_law_467 : decode cL_law 467 = .ok (.iload 4, 2) := gdL_law_463.2.2.2.2.1
theorem dL_law_469 : decode cL_law 469 = .ok (.iconst 3, 1) := gdL_law_463.2.2.2.2.2
theorem gdL_law_470 : (decode cL_law 470 = .ok (.iadd, 1)) ∧ (decode cL_law 471 = .ok (.iaload, 1)) ∧ (decode cL_law 472 = .ok (.aload_n 0, 1)) ∧ (decode cL_law 473 = .ok (.iload 4, 2)) ∧ (decode cL_law 475 = .ok (.iconst 4, 1)) ∧ (decode cL_law 476 = .ok (.iadd, 1)) := by decide +kernel
theorem dL_law_470 : decode cL_law 470 = .ok (.iadd, 1) := gdL_law_470.1
theorem dL_law_471 : decode cL_law 471 = .ok (.iaload, 1) := gdL_law_470.2.1
theorem dL_law_472 : decode cL_law 472 = .ok (.aload_n 0, 1) := gdL_law_470.2.2.1
theorem dL_law_473 : decode cL_law 473 = .ok (.iload 4, 2) := gdL_law_470.2.2.2.1
theorem dL_law_475 : decode cL_law 475 = .ok (.iconst 4, 1) := gdL_law_470.2.2.2.2.1
theorem dL_law_476 : decode cL_law 476 = .ok (.iadd, 1) := gdL_law_470.2.2.2.2.2
theorem gdL_law_477 : (decode cL_law 477 = .ok (.iaload, 1)) ∧ (decode cL_law 478 = .ok (.aload_n 3, 1)) ∧ (decode cL_law 479 = .ok (.invokestatic 176, 3)) ∧ (decode cL_law 482 = .ok (.istore 5, 2)) ∧ (decode cL_law 484 = .ok (.aload_n 2, 1)) ∧ (decode cL_law 485 = .ok (.aload_n 0, 1)) := by decide +kernel
theorem dL_law_477 : decode cL_law 477 = .ok (.iaload, 1) := gdL_law_477.1
theorem dL_law_478 : decode cL_law 478 = .ok (.aload_n 3, 1) := gdL_law_477.2.1
theorem dL_law_479 : decode cL_law 479 = .ok (.invokestatic 176, 3) := gdL_law_477.2.2.1
theorem dL_law_482 : decode cL_law 482 = .ok (.istore 5, 2) := gdL_law_477.2.2.2.1
theorem dL_law_484 : decode cL_law 484 = .ok (.aload_n 2, 1) := gdL_law_477.2.2.2.2.1
theorem dL_law_485 : decode cL_law 485 = .ok (.aload_n 0, 1) := gdL_law_477.2.2.2.2.2
theorem gdL_law_486 : (decode cL_law 486 = .ok (.iload 4, 2)) ∧ (decode cL_law 488 = .ok (.iconst 1, 1)) ∧ (decode cL_law 489 = .ok (.iadd, 1)) ∧ (decode cL_law 490 = .ok (.iaload, 1)) ∧ (decode cL_law 491 = .ok (.aload_n 0, 1)) ∧ (decode cL_law 492 = .ok (.iload 4, 2)) := by decide +kernel
theorem dL_law_486 : decode cL_law 486 = .ok (.iload 4, 2) := gdL_law_486.1
theorem dL_law_488 : decode cL_law 488 = .ok (.iconst 1, 1) := gdL_law_486.2.1
theorem dL_law_489 : decode cL_law 489 = .ok (.iadd, 1) := gdL_law_486.2.2.1
theorem dL_law_490 : decode cL_law 490 = .ok (.iaload, 1) := gdL_law_486.2.2.2.1
theorem dL_law_491 : decode cL_law 491 = .ok (.aload_n 0, 1) := gdL_law_486.2.2.2.2.1
theorem dL_law_492 : decode cL_law 492 = .ok (.iload 4, 2) := gdL_law_486.2.2.2.2.2
theorem gdL_law_494 : (decode cL_law 494 = .ok (.iconst 2, 1)) ∧ (decode cL_law 495 = .ok (.iadd, 1)) ∧ (decode cL_law 496 = .ok (.iaload, 1)) ∧ (decode cL_law 497 = .ok (.aload_n 0, 1)) ∧ (decode cL_law 498 = .ok (.iload 4, 2)) ∧ (decode cL_law 500 = .ok (.iconst 3, 1)) := by decide +kernel
theorem dL_law_494 : decode cL_law 494 = .ok (.iconst 2, 1) := gdL_law_494.1
theorem dL_law_495 : decode cL_law 495 = .ok (.iadd, 1) := gdL_law_494.2.1
theorem dL_law_496 : decode cL_law 496 = .ok (.iaload, 1) := gdL_law_494.2.2.1
theorem dL_law_497 : decode cL_law 497 = .ok (.aload_n 0, 1) := gdL_law_494.2.2.2.1
theorem dL_law_498 : decode cL_law 498 = .ok (.iload 4, 2) := gdL_law_494.2.2.2.2.1
theorem dL_law_500 : decode cL_law 500 = .ok (.iconst 3, 1) := gdL_law_494.2.2.2.2.2
theorem gdL_law_501 : (decode cL_law 501 = .ok (.iadd, 1)) ∧ (decode cL_law 502 = .ok (.iaload, 1)) ∧ (decode cL_law 503 = .ok (.aload_n 0, 1)) ∧ (decode cL_law 504 = .ok (.iload 4, 2)) ∧ (decode cL_law 506 = .ok (.iconst 4, 1)) ∧ (decode cL_law 507 = .ok (.iadd, 1)) := by decide +kernel
theorem dL_law_501 : decode cL_law 501 = .ok (.iadd, 1) := gdL_law_501.1
theorem dL_law_502 : decode cL_law 502 = .ok (.iaload, 1) := gdL_law_501.2.1
theorem dL_law_503 : decode cL_law 503 = .ok (.aload_n 0, 1) := gdL_law_501.2.2.1
theorem dL_law_504 : decode cL_law 504 = .ok (.iload 4, 2) := gdL_law_501.2.2.2.1
theorem dL_law_506 : decode cL_law 506 = .ok (.iconst 4, 1) := gdL_law_501.2.2.2.2.1
theorem dL_law_507 : decode cL_law 507 = .ok (.iadd, 1) := gdL_law_501.2.2.2.2.2
theorem gdL_law_508 : (decode cL_law 508 = .ok (.iaload, 1)) ∧ (decode cL_law 509 = .ok (.invokevirtual 178, 3)) ∧ (decode cL_law 512 = .ok (.istore 6, 2)) ∧ (decode cL_law 514 = .ok (.goto 1570, 3)) ∧ (decode cL_law 517 = .ok (.aload_n 1, 1)) ∧ (decode cL_law 518 = .ok (.aload_n 0, 1)) := by decide +kernel
theorem dL_law_508 : decode cL_law 508 = .ok (.iaload, 1) := gdL_law_508.1
theorem dL_law_509 : decode cL_law 509 = .ok (.invokevirtual 178, 3) := gdL_law_508.2.1
theorem dL_law_512 : decode cL_law 512 = .ok (.istore 6, 2) := gdL_law_508.2.2.1
theorem dL_law_514 : decode cL_law 514 = .ok (.goto 1570, 3) := gdL_law_508.2.2.2.1
theorem dL_law_517 : decode cL_law 517 = .ok (.aload_n 1, 1) := gdL_law_508.2.2.2.2.1
theorem dL_law_518 : decode cL_law 518 = .ok (.aload_n 0, 1) := gdL_law_508.2.2.2.2.2
theorem gdL_law_519 : (decode cL_law 519 = .ok (.iload 4, 2)) ∧ (decode cL_law 521 = .ok (.iconst 1, 1)) ∧ (decode cL_law 522 = .ok (.iadd, 1)) ∧ (decode cL_law 523 = .ok (.iaload, 1)) ∧ (decode cL_law 524 = .ok (.aload_n 0, 1)) ∧ (decode cL_law 525 = .ok (.iload 4, 2)) := by decide +kernel
theorem dL_law_519 : decode cL_law 519 = .ok (.iload 4, 2) := gdL_law_519.1
theorem dL_law_521 : decode cL_law 521 = .ok (.iconst 1, 1) := gdL_law_519.2.1
theorem dL_law_522 : decode cL_law 522 = .ok (.iadd, 1) := gdL_law_519.2.2.1
theorem dL_law_523 : decode cL_law 523 = .ok (.iaload, 1) := gdL_law_519.2.2.2.1
theorem dL_law_524 : decode cL_law 524 = .ok (.aload_n 0, 1) := gdL_law_519.2.2.2.2.1
theorem dL_law_525 : decode cL_law 525 = .ok (.iload 4, 2) := gdL_law_519.2.2.2.2.2
theorem gdL_law_527 : (decode cL_law 527 = .ok (.iconst 2, 1)) ∧ (decode cL_law 528 = .ok (.iadd, 1)) ∧ (decode cL_law 529 = .ok (.iaload, 1)) ∧ (decode cL_law 530 = .ok (.aload_n 0, 1)) ∧ (decode cL_law 531 = .ok (.iload 4, 2)) ∧ (decode cL_law 533 = .ok (.iconst 3, 1)) := by decide +kernel
theorem dL_law_527 : decode cL_law 527 = .ok (.iconst 2, 1) := gdL_law_527.1
theorem dL_law_528 : decode cL_law 528 = .ok (.iadd, 1) := gdL_law_527.2.1
theorem dL_law_529 : decode cL_law 529 = .ok (.iaload, 1) := gdL_law_527.2.2.1
theorem dL_law_530 : decode cL_law 530 = .ok (.aload_n 0, 1) := gdL_law_527.2.2.2.1
theorem dL_law_531 : decode cL_law 531 = .ok (.iload 4, 2) := gdL_law_527.2.2.2.2.1
theorem dL_law_533 : decode cL_law 533 = .ok (.iconst 3, 1) := gdL_law_527.2.2.2.2.2
theorem gdL_law_534 : (decode cL_law 534 = .ok (.iadd, 1)) ∧ (decode cL_law 535 = .ok (.iaload, 1)) ∧ (decode cL_law 536 = .ok (.aload_n 0, 1)) ∧ (decode cL_law 537 = .ok (.iload 4, 2)) ∧ (decode cL_law 539 = .ok (.iconst 4, 1)) ∧ (decode cL_law 540 = .ok (.iadd, 1)) := by decide +kernel
theorem dL_law_534 : decode cL_law 534 = .ok (.iadd, 1) := gdL_law_534.1
theorem dL_law_535 : decode cL_law 535 = .ok (.iaload, 1) := gdL_law_534.2.1
theorem dL_law_536 : decode cL_law 536 = .ok (.aload_n 0, 1) := gdL_law_534.2.2.1
theorem dL_law_537 : decode cL_law 537 = .ok (.iload 4, 2) := gdL_law_534.2.2.2.1
theorem dL_law_539 : decode cL_law 539 = .ok (.iconst 4, 1) := gdL_law_534.2.2.2.2.1
theorem dL_law_540 : decode cL_law 540 = .ok (.iadd, 1) := gdL_law_534.2.2.2.2.2
theorem gdL_law_541 : (decode cL_law 541 = .ok (.iaload, 1)) ∧ (decode cL_law 542 = .ok (.aload_n 3, 1)) ∧ (decode cL_law 543 = .ok (.invokestatic 179, 3)) ∧ (decode cL_law 546 = .ok (.istore 5, 2)) ∧ (decode cL_law 548 = .ok (.aload_n 2, 1)) ∧ (decode cL_law 549 = .ok (.aload_n 0, 1)) := by decide +kernel
theorem dL_law_541 : decode cL_law 541 = .ok (.iaload, 1) := gdL_law_541.1
theorem dL_law_542 : decode cL_law 542 = .ok (.aload_n 3, 1) := gdL_law_541.2.1
theorem dL_law_543 : decode cL_law 543 = .ok (.invokestatic 179, 3) := gdL_law_541.2.2.1
theorem dL_law_546 : decode cL_law 546 = .ok (.istore 5, 2) := gdL_law_541.2.2.2.1
theorem dL_law_548 : decode cL_law 548 = .ok (.aload_n 2, 1) := gdL_law_541.2.2.2.2.1
theorem dL_law_549 : decode cL_law 549 = .ok (.aload_n 0, 1) := gdL_law_541.2.2.2.2.2
theorem gdL_law_550 : (decode cL_law 550 = .ok (.iload 4, 2)) ∧ (decode cL_law 552 = .ok (.iconst 1, 1)) ∧ (decode cL_law 553 = .ok (.iadd, 1)) ∧ (decode cL_law 554 = .ok (.iaload, 1)) ∧ (decode cL_law 555 = .ok (.aload_n 0, 1)) ∧ (decode cL_law 556 = .ok (.iload 4, 2)) := by decide +kernel
theorem dL_law_550 : decode cL_law 550 = .ok (.iload 4, 2) := gdL_law_550.1
theorem dL_law_552 : decode cL_law 552 = .ok (.iconst 1, 1) := gdL_law_550.2.1
theorem dL_law_553 : decode cL_law 553 = .ok (.iadd, 1) := gdL_law_550.2.2.1
theorem dL_law_554 : decode cL_law 554 = .ok (.iaload, 1) := gdL_law_550.2.2.2.1
theorem dL_law_555 : decode cL_law 555 = .ok (.aload_n 0, 1) := gdL_law_550.2.2.2.2.1
theorem dL_law_556 : decode cL_law 556 = .ok (.iload 4, 2) := gdL_law_550.2.2.2.2.2
theorem gdL_law_558 : (decode cL_law 558 = .ok (.iconst 2, 1)) ∧ (decode cL_law 559 = .ok (.iadd, 1)) ∧ (decode cL_law 560 = .ok (.iaload, 1)) ∧ (decode cL_law 561 = .ok (.aload_n 0, 1)) ∧ (decode cL_law 562 = .ok (.iload 4, 2)) ∧ (decode cL_law 564 = .ok (.iconst 3, 1)) := by decide +kernel
theorem dL_law_558 : decode cL_law 558 = .ok (.iconst 2, 1) := gdL_law_558.1
theorem dL_law_559 : decode cL_law 559 = .ok (.iadd, 1) := gdL_law_558.2.1
theorem dL_law_560 : decode cL_law 560 = .ok (.iaload, 1) := gdL_law_558.2.2.1
theorem dL_law_561 : decode cL_law 561 = .ok (.aload_n 0, 1) := gdL_law_558.2.2.2.1
theorem dL_law_562 : decode cL_law 562 = .ok (.iload 4, 2) := gdL_law_558.2.2.2.2.1
theorem dL_law_564 : decode cL_law 564 = .ok (.iconst 3, 1) := gdL_law_558.2.2.2.2.2
theorem gdL_law_565 : (decode cL_law 565 = .ok (.iadd, 1)) ∧ (decode cL_law 566 = .ok (.iaload, 1)) ∧ (decode cL_law 567 = .ok (.aload_n 0, 1)) ∧ (decode cL_law 568 = .ok (.iload 4, 2)) ∧ (decode cL_law 570 = .ok (.iconst 4, 1)) ∧ (decode cL_law 571 = .ok (.iadd, 1)) := by decide +kernel
theorem dL_law_565 : decode cL_law 565 = .ok (.iadd, 1) := gdL_law_565.1
theorem dL_law_566 : decode cL_law 566 = .ok (.iaload, 1) := gdL_law_565.2.1
theorem dL_law_567 : decode cL_law 567 = .ok (.aload_n 0, 1) := gdL_law_565.2.2.1
theorem dL_law_568 : decode cL_law 568 = .ok (.iload 4, 2) := gdL_law_565.2.2.2.1
theorem dL_law_570 : decode cL_law 570 = .ok (.iconst 4, 1) := gdL_law_565.2.2.2.2.1
theorem dL_law_571 : decode cL_law 571 = .ok (.iadd, 1) := gdL_law_565.2.2.2.2.2
theorem gdL_law_572 : (decode cL_law 572 = .ok (.iaload, 1)) ∧ (decode cL_law 573 = .ok (.invokevirtual 181, 3)) ∧ (decode cL_law 576 = .ok (.istore 6, 2)) ∧ (decode cL_law 578 = .ok (.goto 1506, 3)) ∧ (decode cL_law 581 = .ok (.aload_n 1, 1)) ∧ (decode cL_law 582 = .ok (.aload_n 0, 1)) := by decide +kernel
theorem dL_law_572 : decode cL_law 572 = .ok (.iaload, 1) := gdL_law_572.1
theorem dL_law_573 : decode cL_law 573 = .ok (.invokevirtual 181, 3) := gdL_law_572.2.1
theorem dL_law_576 : decode cL_law 576 = .ok (.istore 6, 2) := gdL_law_572.2.2.1
theorem dL_law_578 : decode cL_law 578 = .ok (.goto 1506, 3) := gdL_law_572.2.2.2.1
theorem dL_law_581 : decode cL_law 581 = .ok (.aload_n 1, 1) := gdL_law_572.2.2.2.2.1
theorem dL_law_582 : decode cL_law 582 = .ok (.aload_n 0, 1) := gdL_law_572.2.2.2.2.2
theorem gdL_law_583 : (decode cL_law 583 = .ok (.iload 4, 2)) ∧ (decode cL_law 585 = .ok (.iconst 1, 1)) ∧ (decode cL_law 586 = .ok (.iadd, 1)) ∧ (decode cL_law 587 = .ok (.iaload, 1)) ∧ (decode cL_law 588 = .ok (.aload_n 0, 1)) ∧ (decode cL_law 589 = .ok (.iload 4, 2)) := by decide +kernel
theorem dL_law_583 : decode cL_law 583 = .ok (.iload 4, 2) := gdL_law_583.1
theorem dL_law_585 : decode cL_law 585 = .ok (.iconst 1, 1) := gdL_law_583.2.1
theorem dL_law_586 : decode cL_law 586 = .ok (.iadd, 1) := gdL_law_583.2.2.1
theorem dL_law_587 : decode cL_law 587 = .ok (.iaload, 1) := gdL_law_583.2.2.2.1
theorem dL_law_588 : decode cL_law 588 = .ok (.aload_n 0, 1) := gdL_law_583.2.2.2.2.1
theorem dL_law_589 : decode cL_law 589 = .ok (.iload 4, 2) := gdL_law_583.2.2.2.2.2
theorem gdL_law_591 : (decode cL_law 591 = .ok (.iconst 2, 1)) ∧ (decode cL_law 592 = .ok (.iadd, 1)) ∧ (decode cL_law 593 = .ok (.iaload, 1)) ∧ (decode cL_law 594 = .ok (.aload_n 0, 1)) ∧ (decode cL_law 595 = .ok (.iload 4, 2)) ∧ (decode cL_law 597 = .ok (.iconst 3, 1)) := by decide +kernel
theorem dL_law_591 : decode cL_law 591 = .ok (.iconst 2, 1) := gdL_law_591.1
theorem dL_law_592 : decode cL_law 592 = .ok (.iadd, 1) := gdL_law_591.2.1
theorem dL_law_593 : decode cL_law 593 = .ok (.iaload, 1) := gdL_law_591.2.2.1
theorem dL_law_594 : decode cL_law 594 = .ok (.aload_n 0, 1) := gdL_law_591.2.2.2.1
theorem dL_law_595 : decode cL_law 595 = .ok (.iload 4, 2) := gdL_law_591.2.2.2.2.1
theorem dL_law_597 : decode cL_law 597 = .ok (.iconst 3, 1) := gdL_law_591.2.2.2.2.2
theorem gdL_law_598 : (decode cL_law 598 = .ok (.iadd, 1)) ∧ (decode cL_law 599 = .ok (.iaload, 1)) ∧ (decode cL_law 600 = .ok (.aload_n 0, 1)) ∧ (decode cL_law 601 = .ok (.iload 4, 2)) ∧ (decode cL_law 603 = .ok (.iconst 4, 1)) ∧ (decode cL_law 604 = .ok (.iadd, 1)) := by decide +kernel
theorem dL_law_598 : decode cL_law 598 = .ok (.iadd, 1) := gdL_law_598.1
theorem dL_law_599 : decode cL_law 599 = .ok (.iaload, 1) := gdL_law_598.2.1
theorem dL_law_600 : decode cL_law 600 = .ok (.aload_n 0, 1) := gdL_law_598.2.2.1
theorem dL_law_601 : decode cL_law 601 = .ok (.iload 4, 2) := gdL_law_598.2.2.2.1
theorem dL_law_603 : decode cL_law 603 = .ok (.iconst 4, 1) := gdL_law_598.2.2.2.2.1
theorem dL_law_604 : decode cL_law 604 = .ok (.iadd, 1) := gdL_law_598.2.2.2.2.2
theorem gdL_law_605 : (decode cL_law 605 = .ok (.iaload, 1)) ∧ (decode cL_law 606 = .ok (.aload_n 3, 1)) ∧ (decode cL_law 607 = .ok (.invokestatic 182, 3)) ∧ (decode cL_law 610 = .ok (.istore 5, 2)) ∧ (decode cL_law 612 = .ok (.aload_n 2, 1)) ∧ (decode cL_law 613 = .ok (.aload_n 0, 1)) := by decide +kernel
theorem dL_law_605 : decode cL_law 605 = .ok (.iaload, 1) := gdL_law_605.1
theorem dL_law_606 : decode cL_law 606 = .ok (.aload_n 3, 1) := gdL_law_605.2.1
theorem dL_law_607 : decode cL_law 607 = .ok (.invokestatic 182, 3) := gdL_law_605.2.2.1
theorem dL_law_610 : decode cL_law 610 = .ok (.istore 5, 2) := gdL_law_605.2.2.2.1
theorem dL_law_612 : decode cL_law 612 = .ok (.aload_n 2, 1) := gdL_law_605.2.2.2.2.1
theorem dL_law_613 : decode cL_law 613 = .ok (.aload_n 0, 1) := gdL_law_605.2.2.2.2.2
theorem gdL_law_614 : (decode cL_law 614 = .ok (.iload 4, 2)) ∧ (decode cL_law 616 = .ok (.iconst 1, 1)) ∧ (decode cL_law 617 = .ok (.iadd, 1)) ∧ (decode cL_law 618 = .ok (.iaload, 1)) ∧ (decode cL_law 619 = .ok (.aload_n 0, 1)) ∧ (decode cL_law 620 = .ok (.iload 4, 2)) := by decide +kernel
theorem dL_law_614 : decode cL_law 614 = .ok (.iload 4, 2) := gdL_law_614.1
theorem dL_law_616 : decode cL_law 616 = .ok (.iconst 1, 1) := gdL_law_614.2.1
theorem dL_law_617 : decode cL_law 617 = .ok (.iadd, 1) := gdL_law_614.2.2.1
theorem dL_law_618 : decode cL_law 618 = .ok (.iaload, 1) := gdL_law_614.2.2.2.1
theorem dL_law_619 : decode cL_law 619 = .ok (.aload_n 0, 1) := gdL_law_614.2.2.2.2.1
theorem dL_law_620 : decode cL_law 620 = .ok (.iload 4, 2) := gdL_law_614.2.2.2.2.2
theorem gdL_law_622 : (decode cL_law 622 = .ok (.iconst 2, 1)) ∧ (decode cL_law 623 = .ok (.iadd, 1)) ∧ (decode cL_law 624 = .ok (.iaload, 1)) ∧ (decode cL_law 625 = .ok (.aload_n 0, 1)) ∧ (decode cL_law 626 = .ok (.iload 4, 2)) ∧ (decode cL_law 628 = .ok (.iconst 3, 1)) := by decide +kernel
theorem dL_law_622 : decode cL_law 622 = .ok (.iconst 2, 1) := gdL_law_622.1
theorem dL_law_623 : decode cL_law 623 = .ok (.iadd, 1) := gdL_law_622.2.1
theorem dL_law_624 : decode cL_law 624 = .ok (.iaload, 1) := gdL_law_622.2.2.1
theorem dL_law_625 : decode cL_law 625 = .ok (.aload_n 0, 1) := gdL_law_622.2.2.2.1
theorem dL_law_626 : decode cL_law 626 = .ok (.iload 4, 2) := gdL_law_622.2.2.2.2.1
theorem dL_law_628 : decode cL_law 628 = .ok (.iconst 3, 1) := gdL_law_622.2.2.2.2.2
theorem gdL_law_629 : (decode cL_law 629 = .ok (.iadd, 1)) ∧ (decode cL_law 630 = .ok (.iaload, 1)) ∧ (decode cL_law 631 = .ok (.aload_n 0, 1)) ∧ (decode cL_law 632 = .ok (.iload 4, 2)) ∧ (decode cL_law 634 = .ok (.iconst 4, 1)) ∧ (decode cL_law 635 = .ok (.iadd, 1)) := by decide +kernel
theorem dL_law_629 : decode cL_law 629 = .ok (.iadd, 1) := gdL_law_629.1
theorem dL_law_630 : decode cL_law 630 = .ok (.iaload, 1) := gdL_law_629.2.1
theorem dL_law_631 : decode cL_law 631 = .ok (.aload_n 0, 1) := gdL_law_629.2.2.1
theorem dL_law_632 : decode cL_law 632 = .ok (.iload 4, 2) := gdL_law_629.2.2.2.1
theorem dL_law_634 : decode cL_law 634 = .ok (.iconst 4, 1) := gdL_law_629.2.2.2.2.1
theorem dL_law_635 : decode cL_law 635 = .ok (.iadd, 1) := gdL_law_629.2.2.2.2.2
theorem gdL_law_636 : (decode cL_law 636 = .ok (.iaload, 1)) ∧ (decode cL_law 637 = .ok (.invokevirtual 184, 3)) ∧ (decode cL_law 640 = .ok (.istore 6, 2)) ∧ (decode cL_law 642 = .ok (.goto 1442, 3)) ∧ (decode cL_law 645 = .ok (.aload_n 1, 1)) ∧ (decode cL_law 646 = .ok (.aload_n 0, 1)) := by decide +kernel
theorem dL_law_636 : decode cL_law 636 = .ok (.iaload, 1) := gdL_law_636.1
theorem dL_law_637 : decode cL_law 637 = .ok (.invokevirtual 184, 3) := gdL_law_636.2.1
theorem dL_law_640 : decode cL_law 640 = .ok (.istore 6, 2) := gdL_law_636.2.2.1
theorem dL_law_642 : decode cL_law 642 = .ok (.goto 1442, 3) := gdL_law_636.2.2.2.1
theorem dL_law_645 : decode cL_law 645 = .ok (.aload_n 1, 1) := gdL_law_636.2.2.2.2.1
theorem dL_law_646 : decode cL_law 646 = .ok (.aload_n 0, 1) := gdL_law_636.2.2.2.2.2
theorem gdL_law_647 : (decode cL_law 647 = .ok (.iload 4, 2)) ∧ (decode cL_law 649 = .ok (.iconst 1, 1)) ∧ (decode cL_law 650 = .ok (.iadd, 1)) ∧ (decode cL_law 651 = .ok (.iaload, 1)) ∧ (decode cL_law 652 = .ok (.aload_n 0, 1)) ∧ (decode cL_law 653 = .ok (.iload 4, 2)) := by decide +kernel
theorem dL_law_647 : decode cL_law 647 = .ok (.iload 4, 2) := gdL_law_647.1
theorem dL_law_649 : decode cL_law 649 = .ok (.iconst 1, 1) := gdL_law_647.2.1
theorem dL_law_650 : decode cL_law 650 = .ok (.iadd, 1) := gdL_law_647.2.2.1
theorem dL_law_651 : decode cL_law 651 = .ok (.iaload, 1) := gdL_law_647.2.2.2.1
theorem dL_law_652 : decode cL_law 652 = .ok (.aload_n 0, 1) := gdL_law_647.2.2.2.2.1
theorem dL_law_653 : decode cL_law 653 = .ok (.iload 4, 2) := gdL_law_647.2.2.2.2.2
theorem gdL_law_655 : (decode cL_law 655 = .ok (.iconst 2, 1)) ∧ (decode cL_law 656 = .ok (.iadd, 1)) ∧ (decode cL_law 657 = .ok (.iaload, 1)) ∧ (decode cL_law 658 = .ok (.aload_n 0, 1)) ∧ (decode cL_law 659 = .ok (.iload 4, 2)) ∧ (decode cL_law 661 = .ok (.iconst 3, 1)) := by decide +kernel
theorem dL_law_655 : decode cL_law 655 = .ok (.iconst 2, 1) := gdL_law_655.1
theorem dL_law_656 : decode cL_law 656 = .ok (.iadd, 1) := gdL_law_655.2.1
theorem dL_law_657 : decode cL_law 657 = .ok (.iaload, 1) := gdL_law_655.2.2.1
theorem dL_law_658 : decode cL_law 658 = .ok (.aload_n 0, 1) := gdL_law_655.2.2.2.1
theorem dL_law_659 : decode cL_law 659 = .ok (.iload 4, 2) := gdL_law_655.2.2.2.2.1
theorem dL_law_661 : decode cL_law 661 = .ok (.iconst 3, 1) := gdL_law_655.2.2.2.2.2
theorem gdL_law_662 : (decode cL_law 662 = .ok (.iadd, 1)) ∧ (decode cL_law 663 = .ok (.iaload, 1)) ∧ (decode cL_law 664 = .ok (.aload_n 0, 1)) ∧ (decode cL_law 665 = .ok (.iload 4, 2)) ∧ (decode cL_law 667 = .ok (.iconst 4, 1)) ∧ (decode cL_law 668 = .ok (.iadd, 1)) := by decide +kernel
theorem dL_law_662 : decode cL_law 662 = .ok (.iadd, 1) := gdL_law_662.1
theorem dL_law_663 : decode cL_law 663 = .ok (.iaload, 1) := gdL_law_662.2.1
theorem dL_law_664 : decode cL_law 664 = .ok (.aload_n 0, 1) := gdL_law_662.2.2.1
theorem dL_law_665 : decode cL_law 665 = .ok (.iload 4, 2) := gdL_law_662.2.2.2.1
theorem dL_law_667 : decode cL_law 667 = .ok (.iconst 4, 1) := gdL_law_662.2.2.2.2.1
theorem dL_law_668 : decode cL_law 668 = .ok (.iadd, 1) := gdL_law_662.2.2.2.2.2
theorem gdL_law_669 : (decode cL_law 669 = .ok (.iaload, 1)) ∧ (decode cL_law 670 = .ok (.aload_n 0, 1)) ∧ (decode cL_law 671 = .ok (.iload 4, 2)) ∧ (decode cL_law 673 = .ok (.iconst 5, 1)) ∧ (decode cL_law 674 = .ok (.iadd, 1)) ∧ (decode cL_law 675 = .ok (.iaload, 1)) := by decide +kernel
theorem dL_law_669 : decode cL_law 669 = .ok (.iaload, 1) := gdL_law_669.1
theorem dL_law_670 : decode cL_law 670 = .ok (.aload_n 0, 1) := gdL_law_669.2.1
theorem dL_law_671 : decode cL_law 671 = .ok (.iload 4, 2) := gdL_law_669.2.2.1
theorem dL_law_673 : decode cL_law 673 = .ok (.iconst 5, 1) := gdL_law_669.2.2.2.1
theorem dL_law_674 : decode cL_law 674 = .ok (.iadd, 1) := gdL_law_669.2.2.2.2.1
theorem dL_law_675 : decode cL_law 675 = .ok (.iaload, 1) := gdL_law_669.2.2.2.2.2
theorem gdL_law_676 : (decode cL_law 676 = .ok (.aload_n 3, 1)) ∧ (decode cL_law 677 = .ok (.invokestatic 185, 3)) ∧ (decode cL_law 680 = .ok (.istore 5, 2)) ∧ (decode cL_law 682 = .ok (.aload_n 2, 1)) ∧ (decode cL_law 683 = .ok (.aload_n 0, 1)) ∧ (decode cL_law 684 = .ok (.iload 4, 2)) := by decide +kernel
theorem dL_law_676 : decode cL_law 676 = .ok (.aload_n 3, 1) := gdL_law_676.1
theorem dL_law_677 : decode cL_law 677 = .ok (.invokestatic 185, 3) := gdL_law_676.2.1
theorem dL_law_680 : decode cL_law 680 = .ok (.istore 5, 2) := gdL_law_676.2.2.1
theorem dL_law_682 : decode cL_law 682 = .ok (.aload_n 2, 1) := gdL_law_676.2.2.2.1
theorem dL_law_683 : decode cL_law 683 = .ok (.aload_n 0, 1) := gdL_law_676.2.2.2.2.1
theorem dL_law_684 : decode cL_law 684 = .ok (.iload 4, 2) := gdL_law_676.2.2.2.2.2
theorem gdL_law_686 : (decode cL_law 686 = .ok (.iconst 1, 1)) ∧ (decode cL_law 687 = .ok (.iadd, 1)) ∧ (decode cL_law 688 = .ok (.iaload, 1)) ∧ (decode cL_law 689 = .ok (.aload_n 0, 1)) ∧ (decode cL_law 690 = .ok (.iload 4, 2)) ∧ (decode cL_law 692 = .ok (.iconst 2, 1)) := by decide +kernel
theorem dL_law_686 : decode cL_law 686 = .ok (.iconst 1, 1) := gdL_law_686.1
theorem dL_law_687 : decode cL_law 687 = .ok (.iadd, 1) := gdL_law_686.2.1
theorem dL_law_688 : decode cL_law 688 = .ok (.iaload, 1) := gdL_law_686.2.2.1
theorem dL_law_689 : decode cL_law 689 = .ok (.aload_n 0, 1) := gdL_law_686.2.2.2.1
theorem dL_law_690 : decode cL_law 690 = .ok (.iload 4, 2) := gdL_law_686.2.2.2.2.1
theorem dL_law_692 : decode cL_law 692 = .ok (.iconst 2, 1) := gdL_law_686.2.2.2.2.2
theorem gdL_law_693 : (decode cL_law 693 = .ok (.iadd, 1)) ∧ (decode cL_law 694 = .ok (.iaload, 1)) ∧ (decode cL_law 695 = .ok (.aload_n 0, 1)) ∧ (decode cL_law 696 = .ok (.iload 4, 2)) ∧ (decode cL_law 698 = .ok (.iconst 3, 1)) ∧ (decode cL_law 699 = .ok (.iadd, 1)) := by decide +kernel
theorem dL_law_693 : decode cL_law 693 = .ok (.iadd, 1) := gdL_law_693.1
theorem dL_law_694 : decode cL_law 694 = .ok (.iaload, 1) := gdL_law_693.2.1
theorem dL_law_695 : decode cL_law 695 = .ok (.aload_n 0, 1) := gdL_law_693.2.2.1
theorem dL_law_696 : decode cL_law 696 = .ok (.iload 4, 2) := gdL_law_693.2.2.2.1
theorem dL_law_698 : decode cL_law 698 = .ok (.iconst 3, 1) := gdL_law_693.2.2.2.2.1
theorem dL_law_699 : decode cL_law 699 = .ok (.iadd, 1) := gdL_law_693.2.2.2.2.2
theorem gdL_law_700 : (decode cL_law 700 = .ok (.iaload, 1)) ∧ (decode cL_law 701 = .ok (.aload_n 0, 1)) ∧ (decode cL_law 702 = .ok (.iload 4, 2)) ∧ (decode cL_law 704 = .ok (.iconst 4, 1)) ∧ (decode cL_law 705 = .ok (.iadd, 1)) ∧ (decode cL_law 706 = .ok (.iaload, 1)) := by decide +kernel
theorem dL_law_700 : decode cL_law 700 = .ok (.iaload, 1) := gdL_law_700.1
theorem dL_law_701 : decode cL_law 701 = .ok (.aload_n 0, 1) := gdL_law_700.2.1
theorem dL_law_702 : decode cL_law 702 = .ok (.iload 4, 2) := gdL_law_700.2.2.1
theorem dL_law_704 : decode cL_law 704 = .ok (.iconst 4, 1) := gdL_law_700.2.2.2.1
theorem dL_law_705 : decode cL_law 705 = .ok (.iadd, 1) := gdL_law_700.2.2.2.2.1
theorem dL_law_706 : decode cL_law 706 = .ok (.iaload, 1) := gdL_law_700.2.2.2.2.2
theorem gdL_law_707 : (decode cL_law 707 = .ok (.aload_n 0, 1)) ∧ (decode cL_law 708 = .ok (.iload 4, 2)) ∧ (decode cL_law 710 = .ok (.iconst 5, 1)) ∧ (decode cL_law 711 = .ok (.iadd, 1)) ∧ (decode cL_law 712 = .ok (.iaload, 1)) ∧ (decode cL_law 713 = .ok (.invokevirtual 188, 3)) := by decide +kernel
theorem dL_law_707 : decode cL_law 707 = .ok (.aload_n 0, 1) := gdL_law_707.1
theorem dL_law_708 : decode cL_law 708 = .ok (.iload 4, 2) := gdL_law_707.2.1
theorem dL_law_710 : decode cL_law 710 = .ok (.iconst 5, 1) := gdL_law_707.2.2.1
theorem dL_law_711 : decode cL_law 711 = .ok (.iadd, 1) := gdL_law_707.2.2.2.1
theorem dL_law_712 : decode cL_law 712 = .ok (.iaload, 1) := gdL_law_707.2.2.2.2.1
theorem dL_law_713 : decode cL_law 713 = .ok (.invokevirtual 188, 3) := gdL_law_707.2.2.2.2.2
theorem gdL_law_716 : (decode cL_law 716 = .ok (.istore 6, 2)) ∧ (decode cL_law 718 = .ok (.goto 1366, 3)) ∧ (decode cL_law 721 = .ok (.aload_n 1, 1)) ∧ (decode cL_law 722 = .ok (.aload_n 0, 1)) ∧ (decode cL_law 723 = .ok (.iload 4, 2)) ∧ (decode cL_law 725 = .ok (.iconst 1, 1)) := by decide +kernel
theorem dL_law_716 : decode cL_law 716 = .ok (.istore 6, 2) := gdL_law_716.1
theorem dL_law_718 : decode cL_law 718 = .ok (.goto 1366, 3) := gdL_law_716.2.1
theorem dL_law_721 : decode cL_law 721 = .ok (.aload_n 1, 1) := gdL_law_716.2.2.1
theorem dL_law_722 : decode cL_law 722 = .ok (.aload_n 0, 1) := gdL_law_716.2.2.2.1
theorem dL_law_723 : decode cL_law 723 = .ok (.iload 4, 2) := gdL_law_716.2.2.2.2.1
theorem dL_law_725 : decode cL_law 725 = .ok (.iconst 1, 1) := gdL_law_716.2.2.2.2.2
theorem gdL_law_726 : (decode cL_law 726 = .ok (.iadd, 1)) ∧ (decode cL_law 727 = .ok (.iaload, 1)) ∧ (decode cL_law 728 = .ok (.aload_n 0, 1)) ∧ (decode cL_law 729 = .ok (.iload 4, 2)) ∧ (decode cL_law 731 = .ok (.iconst 2, 1)) ∧ (decode cL_law 732 = .ok (.iadd, 1)) := by decide +kernel
theorem dL_law_726 : decode cL_law 726 = .ok (.iadd, 1) := gdL_law_726.1
theorem dL_law_727 : decode cL_law 727 = .ok (.iaload, 1) := gdL_law_726.2.1
theorem dL_law_728 : decode cL_law 728 = .ok (.aload_n 0, 1) := gdL_law_726.2.2.1
theorem dL_law_729 : decode cL_law 729 = .ok (.iload 4, 2) := gdL_law_726.2.2.2.1
theorem dL_law_731 : decode cL_law 731 = .ok (.iconst 2, 1) := gdL_law_726.2.2.2.2.1
theorem dL_law_732 : decode cL_law 732 = .ok (.iadd, 1) := gdL_law_726.2.2.2.2.2
theorem gdL_law_733 : (decode cL_law 733 = .ok (.iaload, 1)) ∧ (decode cL_law 734 = .ok (.aload_n 0, 1)) ∧ (decode cL_law 735 = .ok (.iload 4, 2)) ∧ (decode cL_law 737 = .ok (.iconst 3, 1)) ∧ (decode cL_law 738 = .ok (.iadd, 1)) ∧ (decode cL_law 739 = .ok (.iaload, 1)) := by decide +kernel
theorem dL_law_733 : decode cL_law 733 = .ok (.iaload, 1) := gdL_law_733.1
theorem dL_law_734 : decode cL_law 734 = .ok (.aload_n 0, 1) := gdL_law_733.2.1
theorem dL_law_735 : decode cL_law 735 = .ok (.iload 4, 2) := gdL_law_733.2.2.1
theorem dL_law_737 : decode cL_law 737 = .ok (.iconst 3, 1) := gdL_law_733.2.2.2.1
theorem dL_law_738 : decode cL_law 738 = .ok (.iadd, 1) := gdL_law_733.2.2.2.2.1
theorem dL_law_739 : decode cL_law 739 = .ok (.iaload, 1) := gdL_law_733.2.2.2.2.2
theorem gdL_law_740 : (decode cL_law 740 = .ok (.aload_n 3, 1)) ∧ (decode cL_law 741 = .ok (.invokestatic 189, 3)) ∧ (decode cL_law 744 = .ok (.istore 5, 2)) ∧ (decode cL_law 746 = .ok (.aload_n 2, 1)) ∧ (decode cL_law 747 = .ok (.aload_n 0, 1)) ∧ (decode cL_law 748 = .ok (.iload 4, 2)) := by decide +kernel
theorem dL_law_740 : decode cL_law 740 = .ok (.aload_n 3, 1) := gdL_law_740.1
theorem dL_law_741 : decode cL_law 741 = .ok (.invokestatic 189, 3) := gdL_law_740.2.1
theorem dL_law_744 : decode cL_law 744 = .ok (.istore 5, 2) := gdL_law_740.2.2.1
theorem dL_law_746 : decode cL_law 746 = .ok (.aload_n 2, 1) := gdL_law_740.2.2.2.1
theorem dL_law_747 : decode cL_law 747 = .ok (.aload_n 0, 1) := gdL_law_740.2.2.2.2.1
theorem dL_law_748 : decode cL_law 748 = .ok (.iload 4, 2) := gdL_law_740.2.2.2.2.2
theorem gdL_law_750 : (decode cL_law 750 = .ok (.iconst 1, 1)) ∧ (decode cL_law 751 = .ok (.iadd, 1)) ∧ (decode cL_law 752 = .ok (.iaload, 1)) ∧ (decode cL_law 753 = .ok (.aload_n 0, 1)) ∧ (decode cL_law 754 = .ok (.iload 4, 2)) ∧ (decode cL_law 756 = .ok (.iconst 2, 1)) := by decide +kernel
theorem dL_law_750 : decode cL_law 750 = .ok (.iconst 1, 1) := gdL_law_750.1
theorem dL_law_751 : decode cL_law 751 = .ok (.iadd, 1) := gdL_law_750.2.1
theorem dL_law_752 : decode cL_law 752 = .ok (.iaload, 1) := gdL_law_750.2.2.1
theorem dL_law_753 : decode cL_law 753 = .ok (.aload_n 0, 1) := gdL_law_750.2.2.2.1
theorem dL_law_754 : decode cL_law 754 = .ok (.iload 4, 2) := gdL_law_750.2.2.2.2.1
theorem dL_law_756 : decode cL_law 756 = .ok (.iconst 2, 1) := gdL_law_750.2.2.2.2.2
theorem gdL_law_757 : (decode cL_law 757 = .ok (.iadd, 1)) ∧ (decode cL_law 758 = .ok (.iaload, 1)) ∧ (decode cL_law 759 = .ok (.aload_n 0, 1)) ∧ (decode cL_law 760 = .ok (.iload 4, 2)) ∧ (decode cL_law 762 = .ok (.iconst 3, 1)) ∧ (decode cL_law 763 = .ok (.iadd, 1)) := by decide +kernel
theorem dL_law_757 : decode cL_law 757 = .ok (.iadd, 1) := gdL_law_757.1
theorem dL_law_758 : decode cL_law 758 = .ok (.iaload, 1) := gdL_law_757.2.1
theorem dL_law_759 : decode cL_law 759 = .ok (.aload_n 0, 1) := gdL_law_757.2.2.1
theorem dL_law_760 : decode cL_law 760 = .ok (.iload 4, 2) := gdL_law_757.2.2.2.1
theorem dL_law_762 : decode cL_law 762 = .ok (.iconst 3, 1) := gdL_law_757.2.2.2.2.1
theorem dL_law_763 : decode cL_law 763 = .ok (.iadd, 1) := gdL_law_757.2.2.2.2.2
theorem gdL_law_764 : (decode cL_law 764 = .ok (.iaload, 1)) ∧ (decode cL_law 765 = .ok (.invokevirtual 191, 3)) ∧ (decode cL_law 768 = .ok (.istore 6, 2)) ∧ (decode cL_law 770 = .ok (.goto 1314, 3)) ∧ (decode cL_law 773 = .ok (.aload_n 1, 1)) ∧ (decode cL_law 774 = .ok (.aload_n 0, 1)) := by decide +kernel
theorem dL_law_764 : decode cL_law 764 = .ok (.iaload, 1) := gdL_law_764.1
theorem dL_law_765 : decode cL_law 765 = .ok (.invokevirtual 191, 3) := gdL_law_764.2.1
theorem dL_law_768 : decode cL_law 768 = .ok (.istore 6, 2) := gdL_law_764.2.2.1
theorem dL_law_770 : decode cL_law 770 = .ok (.goto 1314, 3) := gdL_law_764.2.2.2.1
theorem dL_law_773 : decode cL_law 773 = .ok (.aload_n 1, 1) := gdL_law_764.2.2.2.2.1
theorem dL_law_774 : decode cL_law 774 = .ok (.aload_n 0, 1) := gdL_law_764.2.2.2.2.2
theorem gdL_law_775 : (decode cL_law 775 = .ok (.iload 4, 2)) ∧ (decode cL_law 777 = .ok (.iconst 1, 1)) ∧ (decode cL_law 778 = .ok (.iadd, 1)) ∧ (decode cL_law 779 = .ok (.iaload, 1)) ∧ (decode cL_law 780 = .ok (.aload_n 3, 1)) ∧ (decode cL_law 781 = .ok (.invokestatic 192, 3)) := by decide +kernel
theorem dL_law_775 : decode cL_law 775 = .ok (.iload 4, 2) := gdL_law_775.1
theorem dL_law_777 : decode cL_law 777 = .ok (.iconst 1, 1) := gdL_law_775.2.1
theorem dL_law_778 : decode cL_law 778 = .ok (.iadd, 1) := gdL_law_775.2.2.1
theorem dL_law_779 : decode cL_law 779 = .ok (.iaload, 1) := gdL_law_775.2.2.2.1
theorem dL_law_780 : decode cL_law 780 = .ok (.aload_n 3, 1) := gdL_law_775.2.2.2.2.1
theorem dL_law_781 : decode cL_law 781 = .ok (.invokestatic 192, 3) := gdL_law_775.2.2.2.2.2
theorem gdL_law_784 : (decode cL_law 784 = .ok (.istore 5, 2)) ∧ (decode cL_law 786 = .ok (.aload_n 2, 1)) ∧ (decode cL_law 787 = .ok (.aload_n 0, 1)) ∧ (decode cL_law 788 = .ok (.iload 4, 2)) ∧ (decode cL_law 790 = .ok (.iconst 1, 1)) ∧ (decode cL_law 791 = .ok (.iadd, 1)) := by decide +kernel
theorem dL_law_784 : decode cL_law 784 = .ok (.istore 5, 2) := gdL_law_784.1
theorem dL_law_786 : decode cL_law 786 = .ok (.aload_n 2, 1) := gdL_law_784.2.1
theorem dL_law_787 : decode cL_law 787 = .ok (.aload_n 0, 1) := gdL_law_784.2.2.1
theorem dL_law_788 : decode cL_law 788 = .ok (.iload 4, 2) := gdL_law_784.2.2.2.1
theorem dL_law_790 : decode cL_law 790 = .ok (.iconst 1, 1) := gdL_law_784.2.2.2.2.1
theorem dL_law_791 : decode cL_law 791 = .ok (.iadd, 1) := gdL_law_784.2.2.2.2.2
theorem gdL_law_792 : (decode cL_law 792 = .ok (.iaload, 1)) ∧ (decode cL_law 793 = .ok (.invokevirtual 195, 3)) ∧ (decode cL_law 796 = .ok (.istore 6, 2)) ∧ (decode cL_law 798 = .ok (.goto 1286, 3)) ∧ (decode cL_law 801 = .ok (.aload_n 1, 1)) ∧ (decode cL_law 802 = .ok (.aload_n 0, 1)) := by decide +kernel
theorem dL_law_792 : decode cL_law 792 = .ok (.iaload, 1) := gdL_law_792.1
theorem dL_law_793 : decode cL_law 793 = .ok (.invokevirtual 195, 3) := gdL_law_792.2.1
theorem dL_law_796 : decode cL_law 796 = .ok (.istore 6, 2) := gdL_law_792.2.2.1
theorem dL_law_798 : decode cL_law 798 = .ok (.goto 1286, 3) := gdL_law_792.2.2.2.1
theorem dL_law_801 : decode cL_law 801 = .ok (.aload_n 1, 1) := gdL_law_792.2.2.2.2.1
theorem dL_law_802 : decode cL_law 802 = .ok (.aload_n 0, 1) := gdL_law_792.2.2.2.2.2
theorem gdL_law_803 : (decode cL_law 803 = .ok (.iload 4, 2)) ∧ (decode cL_law 805 = .ok (.iconst 1, 1)) ∧ (decode cL_law 806 = .ok (.iadd, 1)) ∧ (decode cL_law 807 = .ok (.iaload, 1)) ∧ (decode cL_law 808 = .ok (.aload_n 0, 1)) ∧ (decode cL_law 809 = .ok (.iload 4, 2)) := by decide +kernel
theorem dL_law_803 : decode cL_law 803 = .ok (.iload 4, 2) := gdL_law_803.1
theorem dL_law_805 : decode cL_law 805 = .ok (.iconst 1, 1) := gdL_law_803.2.1
theorem dL_law_806 : decode cL_law 806 = .ok (.iadd, 1) := gdL_law_803.2.2.1
theorem dL_law_807 : decode cL_law 807 = .ok (.iaload, 1) := gdL_law_803.2.2.2.1
theorem dL_law_808 : decode cL_law 808 = .ok (.aload_n 0, 1) := gdL_law_803.2.2.2.2.1
theorem dL_law_809 : decode cL_law 809 = .ok (.iload 4, 2) := gdL_law_803.2.2.2.2.2
theorem gdL_law_811 : (decode cL_law 811 = .ok (.iconst 2, 1)) ∧ (decode cL_law 812 = .ok (.iadd, 1)) ∧ (decode cL_law 813 = .ok (.iaload, 1)) ∧ (decode cL_law 814 = .ok (.aload_n 3, 1)) ∧ (decode cL_law 815 = .ok (.invokestatic 196, 3)) ∧ (decode cL_law 818 = .ok (.istore 5, 2)) := by decide +kernel
theorem dL_law_811 : decode cL_law 811 = .ok (.iconst 2, 1) := gdL_law_811.1
theorem dL_law_812 : decode cL_law 812 = .ok (.iadd, 1) := gdL_law_811.2.1
theorem dL_law_813 : decode cL_law 813 = .ok (.iaload, 1) := gdL_law_811.2.2.1
theorem dL_law_814 : decode cL_law 814 = .ok (.aload_n 3, 1) := gdL_law_811.2.2.2.1
theorem dL_law_815 : decode cL_law 815 = .ok (.invokestatic 196, 3) := gdL_law_811.2.2.2.2.1
theorem dL_law_818 : decode cL_law 818 = .ok (.istore 5, 2) := gdL_law_811.2.2.2.2.2
theorem gdL_law_820 : (decode cL_law 820 = .ok (.aload_n 2, 1)) ∧ (decode cL_law 821 = .ok (.aload_n 0, 1)) ∧ (decode cL_law 822 = .ok (.iload 4, 2)) ∧ (decode cL_law 824 = .ok (.iconst 1, 1)) ∧ (decode cL_law 825 = .ok (.iadd, 1)) ∧ (decode cL_law 826 = .ok (.iaload, 1)) := by decide +kernel
theorem dL_law_820 : decode cL_law 820 = .ok (.aload_n 2, 1) := gdL_law_820.1
theorem dL_law_821 : decode cL_law 821 = .ok (.aload_n 0, 1) := gdL_law_820.2.1
theorem dL_law_822 : decode cL_law 822 = .ok (.iload 4, 2) := gdL_law_820.2.2.1
theorem dL_law_824 : decode cL_law 824 = .ok (.iconst 1, 1) := gdL_law_820.2.2.2.1
theorem dL_law_825 : decode cL_law 825 = .ok (.iadd, 1) := gdL_law_820.2.2.2.2.1
theorem dL_law_826 : decode cL_law 826 = .ok (.iaload, 1) := gdL_law_820.2.2.2.2.2
theorem gdL_law_827 : (decode cL_law 827 = .ok (.aload_n 0, 1)) ∧ (decode cL_law 828 = .ok (.iload 4, 2)) ∧ (decode cL_law 830 = .ok (.iconst 2, 1)) ∧ (decode cL_law 831 = .ok (.iadd, 1)) ∧ (decode cL_law 832 = .ok (.iaload, 1)) ∧ (decode cL_law 833 = .ok (.invokevirtual 198, 3)) := by decide +kernel
theorem dL_law_827 : decode cL_law 827 = .ok (.aload_n 0, 1) := gdL_law_827.1
theorem dL_law_828 : decode cL_law 828 = .ok (.iload 4, 2) := gdL_law_827.2.1
theorem dL_law_830 : decode cL_law 830 = .ok (.iconst 2, 1) := gdL_law_827.2.2.1
theorem dL_law_831 : decode cL_law 831 = .ok (.iadd, 1) := gdL_law_827.2.2.2.1
theorem dL_law_832 : decode cL_law 832 = .ok (.iaload, 1) := gdL_law_827.2.2.2.2.1
theorem dL_law_833 : decode cL_law 833 = .ok (.invokevirtual 198, 3) := gdL_law_827.2.2.2.2.2
theorem gdL_law_836 : (decode cL_law 836 = .ok (.istore 6, 2)) ∧ (decode cL_law 838 = .ok (.goto 1246, 3)) ∧ (decode cL_law 841 = .ok (.aload_n 1, 1)) ∧ (decode cL_law 842 = .ok (.aload_n 0, 1)) ∧ (decode cL_law 843 = .ok (.iload 4, 2)) ∧ (decode cL_law 845 = .ok (.iconst 1, 1)) := by decide +kernel
theorem dL_law_836 : decode cL_law 836 = .ok (.istore 6, 2) := gdL_law_836.1
theorem dL_law_838 : decode cL_law 838 = .ok (.goto 1246, 3) := gdL_law_836.2.1
theorem dL_law_841 : decode cL_law 841 = .ok (.aload_n 1, 1) := gdL_law_836.2.2.1
theorem dL_law_842 : decode cL_law 842 = .ok (.aload_n 0, 1) := gdL_law_836.2.2.2.1
theorem dL_law_843 : decode cL_law 843 = .ok (.iload 4, 2) := gdL_law_836.2.2.2.2.1
theorem dL_law_845 : decode cL_law 845 = .ok (.iconst 1, 1) := gdL_law_836.2.2.2.2.2
theorem gdL_law_846 : (decode cL_law 846 = .ok (.iadd, 1)) ∧ (decode cL_law 847 = .ok (.iaload, 1)) ∧ (decode cL_law 848 = .ok (.aload_n 0, 1)) ∧ (decode cL_law 849 = .ok (.iload 4, 2)) ∧ (decode cL_law 851 = .ok (.iconst 2, 1)) ∧ (decode cL_law 852 = .ok (.iadd, 1)) := by decide +kernel
theorem dL_law_846 : decode cL_law 846 = .ok (.iadd, 1) := gdL_law_846.1
theorem dL_law_847 : decode cL_law 847 = .ok (.iaload, 1) := gdL_law_846.2.1
theorem dL_law_848 : decode cL_law 848 = .ok (.aload_n 0, 1) := gdL_law_846.2.2.1
theorem dL_law_849 : decode cL_law 849 = .ok (.iload 4, 2) := gdL_law_846.2.2.2.1
theorem dL_law_851 : decode cL_law 851 = .ok (.iconst 2, 1) := gdL_law_846.2.2.2.2.1
theorem dL_law_852 : decode cL_law 852 = .ok (.iadd, 1) := gdL_law_846.2.2.2.2.2
theorem gdL_law_853 : (decode cL_law 853 = .ok (.iaload, 1)) ∧ (decode cL_law 854 = .ok (.aload_n 3, 1)) ∧ (decode cL_law 855 = .ok (.invokestatic 199, 3)) ∧ (decode cL_law 858 = .ok (.istore 5, 2)) ∧ (decode cL_law 860 = .ok (.aload_n 2, 1)) ∧ (decode cL_law 861 = .ok (.aload_n 0, 1)) := by decide +kernel
theorem dL_law_853 : decode cL_law 853 = .ok (.iaload, 1) := gdL_law_853.1
theorem dL_law_854 : decode cL_law 854 = .ok (.aload_n 3, 1) := gdL_law_853.2.1
theorem dL_law_855 : decode cL_law 855 = .ok (.invokestatic 199, 3) := gdL_law_853.2.2.1
theorem dL_law_858 : decode cL_law 858 = .ok (.istore 5, 2) := gdL_law_853.2.2.2.1
theorem dL_law_860 : decode cL_law 860 = .ok (.aload_n 2, 1) := gdL_law_853.2.2.2.2.1
theorem dL_law_861 : decode cL_law 861 = .ok (.aload_n 0, 1) := gdL_law_853.2.2.2.2.2
theorem gdL_law_862 : (decode cL_law 862 = .ok (.iload 4, 2)) ∧ (decode cL_law 864 = .ok (.iconst 1, 1)) ∧ (decode cL_law 865 = .ok (.iadd, 1)) ∧ (decode cL_law 866 = .ok (.iaload, 1)) ∧ (decode cL_law 867 = .ok (.aload_n 0, 1)) ∧ (decode cL_law 868 = .ok (.iload 4, 2)) := by decide +kernel
theorem dL_law_862 : decode cL_law 862 = .ok (.iload 4, 2) := gdL_law_862.1
theorem dL_law_864 : decode cL_law 864 = .ok (.iconst 1, 1) := gdL_law_862.2.1
theorem dL_law_865 : decode cL_law 865 = .ok (.iadd, 1) := gdL_law_862.2.2.1
theorem dL_law_866 : decode cL_law 866 = .ok (.iaload, 1) := gdL_law_862.2.2.2.1
theorem dL_law_867 : decode cL_law 867 = .ok (.aload_n 0, 1) := gdL_law_862.2.2.2.2.1
theorem dL_law_868 : decode cL_law 868 = .ok (.iload 4, 2) := gdL_law_862.2.2.2.2.2
theorem gdL_law_870 : (decode cL_law 870 = .ok (.iconst 2, 1)) ∧ (decode cL_law 871 = .ok (.iadd, 1)) ∧ (decode cL_law 872 = .ok (.iaload, 1)) ∧ (decode cL_law 873 = .ok (.invokevirtual 201, 3)) ∧ (decode cL_law 876 = .ok (.istore 6, 2)) ∧ (decode cL_law 878 = .ok (.goto 1206, 3)) := by decide +kernel
theorem dL_law_870 : decode cL_law 870 = .ok (.iconst 2, 1) := gdL_law_870.1
theorem dL_law_871 : decode cL_law 871 = .ok (.iadd, 1) := gdL_law_870.2.1
theorem dL_law_872 : decode cL_law 872 = .ok (.iaload, 1) := gdL_law_870.2.2.1
theorem dL_law_873 : decode cL_law 873 = .ok (.invokevirtual 201, 3) := gdL_law_870.2.2.2.1
theorem dL_law_876 : decode cL_law 876 = .ok (.istore 6, 2) := gdL_law_870.2.2.2.2.1
theorem dL_law_878 : decode cL_law 878 = .ok (.goto 1206, 3) := gdL_law_870.2.2.2.2.2
theorem gdL_law_881 : (decode cL_law 881 = .ok (.aload_n 1, 1)) ∧ (decode cL_law 882 = .ok (.aload_n 0, 1)) ∧ (decode cL_law 883 = .ok (.iload 4, 2)) ∧ (decode cL_law 885 = .ok (.iconst 1, 1)) ∧ (decode cL_law 886 = .ok (.iadd, 1)) ∧ (decode cL_law 887 = .ok (.iaload, 1)) := by decide +kernel
theorem dL_law_881 : decode cL_law 881 = .ok (.aload_n 1, 1) := gdL_law_881.1
theorem dL_law_882 : decode cL_law 882 = .ok (.aload_n 0, 1) := gdL_law_881.2.1
theorem dL_law_883 : decode cL_law 883 = .ok (.iload 4, 2) := gdL_law_881.2.2.1
theorem dL_law_885 : decode cL_law 885 = .ok (.iconst 1, 1) := gdL_law_881.2.2.2.1
theorem dL_law_886 : decode cL_law 886 = .ok (.iadd, 1) := gdL_law_881.2.2.2.2.1
theorem dL_law_887 : decode cL_law 887 = .ok (.iaload, 1) := gdL_law_881.2.2.2.2.2
theorem gdL_law_888 : (decode cL_law 888 = .ok (.aload_n 0, 1)) ∧ (decode cL_law 889 = .ok (.iload 4, 2)) ∧ (decode cL_law 891 = .ok (.iconst 2, 1)) ∧ (decode cL_law 892 = .ok (.iadd, 1)) ∧ (decode cL_law 893 = .ok (.iaload, 1)) ∧ (decode cL_law 894 = .ok (.aload_n 0, 1)) := by decide +kernel
theorem dL_law_888 : decode cL_law 888 = .ok (.aload_n 0, 1) := gdL_law_888.1
theorem dL_law_889 : decode cL_law 889 = .ok (.iload 4, 2) := gdL_law_888.2.1
theorem dL_law_891 : decode cL_law 891 = .ok (.iconst 2, 1) := gdL_law_888.2.2.1
theorem dL_law_892 : decode cL_law 892 = .ok (.iadd, 1) := gdL_law_888.2.2.2.1
theorem dL_law_893 : decode cL_law 893 = .ok (.iaload, 1) := gdL_law_888.2.2.2.2.1
theorem dL_law_894 : decode cL_law 894 = .ok (.aload_n 0, 1) := gdL_law_888.2.2.2.2.2
theorem gdL_law_895 : (decode cL_law 895 = .ok (.iload 4, 2)) ∧ (decode cL_law 897 = .ok (.iconst 3, 1)) ∧ (decode cL_law 898 = .ok (.iadd, 1)) ∧ (decode cL_law 899 = .ok (.iaload, 1)) ∧ (decode cL_law 900 = .ok (.aload_n 0, 1)) ∧ (decode cL_law 901 = .ok (.iload 4, 2)) := by decide +kernel
theorem dL_law_895 : decode cL_law 895 = .ok (.iload 4, 2) := gdL_law_895.1
theorem dL_law_897 : decode cL_law 897 = .ok (.iconst 3, 1) := gdL_law_895.2.1
theorem dL_law_898 : decode cL_law 898 = .ok (.iadd, 1) := gdL_law_895.2.2.1
theorem dL_law_899 : decode cL_law 899 = .ok (.iaload, 1) := gdL_law_895.2.2.2.1
theorem dL_law_900 : decode cL_law 900 = .ok (.aload_n 0, 1) := gdL_law_895.2.2.2.2.1
theorem dL_law_901 : decode cL_law 901 = .ok (.iload 4, 2) := gdL_law_895.2.2.2.2.2
theorem gdL_law_903 : (decode cL_law 903 = .ok (.iconst 4, 1)) ∧ (decode cL_law 904 = .ok (.iadd, 1)) ∧ (decode cL_law 905 = .ok (.iaload, 1)) ∧ (decode cL_law 906 = .ok (.aload_n 0, 1)) ∧ (decode cL_law 907 = .ok (.iload 4, 2)) ∧ (decode cL_law 909 = .ok (.iconst 5, 1)) := by decide +kernel
theorem dL_law_903 : decode cL_law 903 = .ok (.iconst 4, 1) := gdL_law_903.1
theorem dL_law_904 : decode cL_law 904 = .ok (.iadd, 1) := gdL_law_903.2.1
theorem dL_law_905 : decode cL_law 905 = .ok (.iaload, 1) := gdL_law_903.2.2.1
theorem dL_law_906 : decode cL_law 906 = .ok (.aload_n 0, 1) := gdL_law_903.2.2.2.1
theorem dL_law_907 : decode cL_law 907 = .ok (.iload 4, 2) := gdL_law_903.2.2.2.2.1
theorem dL_law_909 : decode cL_law 909 = .ok (.iconst 5, 1) := gdL_law_903.2.2.2.2.2
theorem gdL_law_910 : (decode cL_law 910 = .ok (.iadd, 1)) ∧ (decode cL_law 911 = .ok (.iaload, 1)) ∧ (decode cL_law 912 = .ok (.aload_n 3, 1)) ∧ (decode cL_law 913 = .ok (.invokestatic 202, 3)) ∧ (decode cL_law 916 = .ok (.istore 5, 2)) ∧ (decode cL_law 918 = .ok (.aload_n 2, 1)) := by decide +kernel
theorem dL_law_910 : decode cL_law 910 = .ok (.iadd, 1) := gdL_law_910.1
theorem dL_law_911 : decode cL_law 911 = .ok (.iaload, 1) := gdL_law_910.2.1
theorem dL_law_912 : decode cL_law 912 = .ok (.aload_n 3, 1) := gdL_law_910.2.2.1
theorem dL_law_913 : decode cL_law 913 = .ok (.invokestatic 202, 3) := gdL_law_910.2.2.2.1
theorem dL_law_916 : decode cL_law 916 = .ok (.istore 5, 2) := gdL_law_910.2.2.2.2.1
theorem dL_law_918 : decode cL_law 918 = .ok (.aload_n 2, 1) := gdL_law_910.2.2.2.2.2
theorem gdL_law_919 : (decode cL_law 919 = .ok (.aload_n 0, 1)) ∧ (decode cL_law 920 = .ok (.iload 4, 2)) ∧ (decode cL_law 922 = .ok (.iconst 1, 1)) ∧ (decode cL_law 923 = .ok (.iadd, 1)) ∧ (decode cL_law 924 = .ok (.iaload, 1)) ∧ (decode cL_law 925 = .ok (.aload_n 0, 1)) := by decide +kernel
theorem dL_law_919 : decode cL_law 919 = .ok (.aload_n 0, 1) := gdL_law_919.1
theorem dL_law_920 : decode cL_law 920 = .ok (.iload 4, 2) := gdL_law_919.2.1
theorem dL_law_922 : decode cL_law 922 = .ok (.iconst 1, 1) := gdL_law_919.2.2.1
theorem dL_law_923 : decode cL_law 923 = .ok (.iadd, 1) := gdL_law_919.2.2.2.1
theorem dL_law_924 : decode cL_law 924 = .ok (.iaload, 1) := gdL_law_919.2.2.2.2.1
theorem dL_law_925 : decode cL_law 925 = .ok (.aload_n 0, 1) := gdL_law_919.2.2.2.2.2
theorem gdL_law_926 : (decode cL_law 926 = .ok (.iload 4, 2)) ∧ (decode cL_law 928 = .ok (.iconst 2, 1)) ∧ (decode cL_law 929 = .ok (.iadd, 1)) ∧ (decode cL_law 930 = .ok (.iaload, 1)) ∧ (decode cL_law 931 = .ok (.aload_n 0, 1)) ∧ (decode cL_law 932 = .ok (.iload 4, 2)) := by decide +kernel
theorem dL_law_926 : decode cL_law 926 = .ok (.iload 4, 2) := gdL_law_926.1
theorem dL_law_928 : decode cL_law 928 = .ok (.iconst 2, 1) := gdL_law_926.2.1
theorem dL_law_929 : decode cL_law 929 = .ok (.iadd, 1) := gdL_law_926.2.2.1
theorem dL_law_930 : decode cL_law 930 = .ok (.iaload, 1) := gdL_law_926.2.2.2.1
theorem dL_law_931 : decode cL_law 931 = .ok (.aload_n 0, 1) := gdL_law_926.2.2.2.2.1
theorem dL_law_932 : decode cL_law 932 = .ok (.iload 4, 2) := gdL_law_926.2.2.2.2.2
theorem gdL_law_934 : (decode cL_law 934 = .ok (.iconst 3, 1)) ∧ (decode cL_law 935 = .ok (.iadd, 1)) ∧ (decode cL_law 936 = .ok (.iaload, 1)) ∧ (decode cL_law 937 = .ok (.aload_n 0, 1)) ∧ (decode cL_law 938 = .ok (.iload 4, 2)) ∧ (decode cL_law 940 = .ok (.iconst 4, 1)) := by decide +kernel
theorem dL_law_934 : decode cL_law 934 = .ok (.iconst 3, 1) := gdL_law_934.1
theorem dL_law_935 : decode cL_law 935 = .ok (.iadd, 1) := gdL_law_934.2.1
theorem dL_law_936 : decode cL_law 936 = .ok (.iaload, 1) := gdL_law_934.2.2.1
theorem dL_law_937 : decode cL_law 937 = .ok (.aload_n 0, 1) := gdL_law_934.2.2.2.1
theorem dL_law_938 : decode cL_law 938 = .ok (.iload 4, 2) := gdL_law_934.2.2.2.2.1
theorem dL_law_940 : decode cL_law 940 = .ok (.iconst 4, 1) := gdL_law_934.2.2.2.2.2
theorem gdL_law_941 : (decode cL_law 941 = .ok (.iadd, 1)) ∧ (decode cL_law 942 = .ok (.iaload, 1)) ∧ (decode cL_law 943 = .ok (.aload_n 0, 1)) ∧ (decode cL_law 944 = .ok (.iload 4, 2)) ∧ (decode cL_law 946 = .ok (.iconst 5, 1)) ∧ (decode cL_law 947 = .ok (.iadd, 1)) := by decide +kernel
theorem dL_law_941 : decode cL_law 941 = .ok (.iadd, 1) := gdL_law_941.1
theorem dL_law_942 : decode cL_law 942 = .ok (.iaload, 1) := gdL_law_941.2.1
theorem dL_law_943 : decode cL_law 943 = .ok (.aload_n 0, 1) := gdL_law_941.2.2.1
theorem dL_law_944 : decode cL_law 944 = .ok (.iload 4, 2) := gdL_law_941.2.2.2.1
theorem dL_law_946 : decode cL_law 946 = .ok (.iconst 5, 1) := gdL_law_941.2.2.2.2.1
theorem dL_law_947 : decode cL_law 947 = .ok (.iadd, 1) := gdL_law_941.2.2.2.2.2
theorem gdL_law_948 : (decode cL_law 948 = .ok (.iaload, 1)) ∧ (decode cL_law 949 = .ok (.invokevirtual 204, 3)) ∧ (decode cL_law 952 = .ok (.istore 6, 2)) ∧ (decode cL_law 954 = .ok (.goto 1130, 3)) ∧ (decode cL_law 957 = .ok (.aload_n 1, 1)) ∧ (decode cL_law 958 = .ok (.aload_n 0, 1)) := by decide +kernel
theorem dL_law_948 : decode cL_law 948 = .ok (.iaload, 1) := gdL_law_948.1
theorem dL_law_949 : decode cL_law 949 = .ok (.invokevirtual 204, 3) := gdL_law_948.2.1
theorem dL_law_952 : decode cL_law 952 = .ok (.istore 6, 2) := gdL_law_948.2.2.1
theorem dL_law_954 : decode cL_law 954 = .ok (.goto 1130, 3) := gdL_law_948.2.2.2.1
theorem dL_law_957 : decode cL_law 957 = .ok (.aload_n 1, 1) := gdL_law_948.2.2.2.2.1
theorem dL_law_958 : decode cL_law 958 = .ok (.aload_n 0, 1) := gdL_law_948.2.2.2.2.2
theorem gdL_law_959 : (decode cL_law 959 = .ok (.iload 4, 2)) ∧ (decode cL_law 961 = .ok (.iconst 1, 1)) ∧ (decode cL_law 962 = .ok (.iadd, 1)) ∧ (decode cL_law 963 = .ok (.iaload, 1)) ∧ (decode cL_law 964 = .ok (.aload_n 0, 1)) ∧ (decode cL_law 965 = .ok (.iload 4, 2)) := by decide +kernel
theorem dL_law_959 : decode cL_law 959 = .ok (.iload 4, 2) := gdL_law_959.1
theorem dL_law_961 : decode cL_law 961 = .ok (.iconst 1, 1) := gdL_law_959.2.1
theorem dL_law_962 : decode cL_law 962 = .ok (.iadd, 1) := gdL_law_959.2.2.1
theorem dL_law_963 : decode cL_law 963 = .ok (.iaload, 1) := gdL_law_959.2.2.2.1
theorem dL_law_964 : decode cL_law 964 = .ok (.aload_n 0, 1) := gdL_law_959.2.2.2.2.1
theorem dL_law_965 : decode cL_law 965 = .ok (.iload 4, 2) := gdL_law_959.2.2.2.2.2
theorem gdL_law_967 : (decode cL_law 967 = .ok (.iconst 2, 1)) ∧ (decode cL_law 968 = .ok (.iadd, 1)) ∧ (decode cL_law 969 = .ok (.iaload, 1)) ∧ (decode cL_law 970 = .ok (.aload_n 0, 1)) ∧ (decode cL_law 971 = .ok (.iload 4, 2)) ∧ (decode cL_law 973 = .ok (.iconst 3, 1)) := by decide +kernel
theorem dL_law_967 : decode cL_law 967 = .ok (.iconst 2, 1) := gdL_law_967.1
theorem dL_law_968 : decode cL_law 968 = .ok (.iadd, 1) := gdL_law_967.2.1
theorem dL_law_969 : decode cL_law 969 = .ok (.iaload, 1) := gdL_law_967.2.2.1
theorem dL_law_970 : decode cL_law 970 = .ok (.aload_n 0, 1) := gdL_law_967.2.2.2.1
theorem dL_law_971 : decode cL_law 971 = .ok (.iload 4, 2) := gdL_law_967.2.2.2.2.1
theorem dL_law_973 : decode cL_law 973 = .ok (.iconst 3, 1) := gdL_law_967.2.2.2.2.2
theorem gdL_law_974 : (decode cL_law 974 = .ok (.iadd, 1)) ∧ (decode cL_law 975 = .ok (.iaload, 1)) ∧ (decode cL_law 976 = .ok (.aload_n 0, 1)) ∧ (decode cL_law 977 = .ok (.iload 4, 2)) ∧ (decode cL_law 979 = .ok (.iconst 4, 1)) ∧ (decode cL_law 980 = .ok (.iadd, 1)) := by decide +kernel
theorem dL_law_974 : decode cL_law 974 = .ok (.iadd, 1) := gdL_law_974.1
theorem dL_law_975 : decode cL_law 975 = .ok (.iaload, 1) := gdL_law_974.2.1
theorem dL_law_976 : decode cL_law 976 = .ok (.aload_n 0, 1) := gdL_law_974.2.2.1
theorem dL_law_977 : decode cL_law 977 = .ok (.iload 4, 2) := gdL_law_974.2.2.2.1
theorem dL_law_979 : decode cL_law 979 = .ok (.iconst 4, 1) := gdL_law_974.2.2.2.2.1
theorem dL_law_980 : decode cL_law 980 = .ok (.iadd, 1) := gdL_law_974.2.2.2.2.2
theorem gdL_law_981 : (decode cL_law 981 = .ok (.iaload, 1)) ∧ (decode cL_law 982 = .ok (.aload_n 0, 1)) ∧ (decode cL_law 983 = .ok (.iload 4, 2)) ∧ (decode cL_law 985 = .ok (.iconst 5, 1)) ∧ (decode cL_law 986 = .ok (.iadd, 1)) ∧ (decode cL_law 987 = .ok (.iaload, 1)) := by decide +kernel
theorem dL_law_981 : decode cL_law 981 = .ok (.iaload, 1) := gdL_law_981.1
theorem dL_law_982 : decode cL_law 982 = .ok (.aload_n 0, 1) := gdL_law_981.2.1
theorem dL_law_983 : decode cL_law 983 = .ok (.iload 4, 2) := gdL_law_981.2.2.1
theorem dL_law_985 : decode cL_law 985 = .ok (.iconst 5, 1) := gdL_law_981.2.2.2.1
theorem dL_law_986 : decode cL_law 986 = .ok (.iadd, 1) := gdL_law_981.2.2.2.2.1
theorem dL_law_987 : decode cL_law 987 = .ok (.iaload, 1) := gdL_law_981.2.2.2.2.2
theorem gdL_law_988 : (decode cL_law 988 = .ok (.aload_n 3, 1)) ∧ (decode cL_law 989 = .ok (.invokestatic 205, 3)) ∧ (decode cL_law 992 = .ok (.istore 5, 2)) ∧ (decode cL_law 994 = .ok (.aload_n 2, 1)) ∧ (decode cL_law 995 = .ok (.aload_n 0, 1)) ∧ (decode cL_law 996 = .ok (.iload 4, 2)) := by decide +kernel
theorem dL_law_988 : decode cL_law 988 = .ok (.aload_n 3, 1) := gdL_law_988.1
theorem dL_law_989 : decode cL_law 989 = .ok (.invokestatic 205, 3) := gdL_law_988.2.1
theorem dL_law_992 : decode cL_law 992 = .ok (.istore 5, 2) := gdL_law_988.2.2.1
theorem dL_law_994 : decode cL_law 994 = .ok (.aload_n 2, 1) := gdL_law_988.2.2.2.1
theorem dL_law_995 : decode cL_law 995 = .ok (.aload_n 0, 1) := gdL_law_988.2.2.2.2.1
theorem dL_law_996 : decode cL_law 996 = .ok (.iload 4, 2) := gdL_law_988.2.2.2.2.2
theorem gdL_law_998 : (decode cL_law 998 = .ok (.iconst 1, 1)) ∧ (decode cL_law 999 = .ok (.iadd, 1)) ∧ (decode cL_law 1000 = .ok (.iaload, 1)) ∧ (decode cL_law 1001 = .ok (.aload_n 0, 1)) ∧ (decode cL_law 1002 = .ok (.iload 4, 2)) ∧ (decode cL_law 1004 = .ok (.iconst 2, 1)) := by decide +kernel
theorem dL_law_998 : decode cL_law 998 = .ok (.iconst 1, 1) := gdL_law_998.1
theorem dL_law_999 : decode cL_law 999 = .ok (.iadd, 1) := gdL_law_998.2.1
theorem dL_law_1000 : decode cL_law 1000 = .ok (.iaload, 1) := gdL_law_998.2.2.1
theorem dL_law_1001 : decode cL_law 1001 = .ok (.aload_n 0, 1) := gdL_law_998.2.2.2.1
theorem dL_law_1002 : decode cL_law 1002 = .ok (.iload 4, 2) := gdL_law_998.2.2.2.2.1
theorem dL_law_1004 : decode cL_law 1004 = .ok (.iconst 2, 1) := gdL_law_998.2.2.2.2.2
theorem gdL_law_1005 : (decode cL_law 1005 = .ok (.iadd, 1)) ∧ (decode cL_law 1006 = .ok (.iaload, 1)) ∧ (decode cL_law 1007 = .ok (.aload_n 0, 1)) ∧ (decode cL_law 1008 = .ok (.iload 4, 2)) ∧ (decode cL_law 1010 = .ok (.iconst 3, 1)) ∧ (decode cL_law 1011 = .ok (.iadd, 1)) := by decide +kernel
theorem dL_law_1005 : decode cL_law 1005 = .ok (.iadd, 1) := gdL_law_1005.1
theorem dL_law_1006 : decode cL_law 1006 = .ok (.iaload, 1) := gdL_law_1005.2.1
theorem dL_law_1007 : decode cL_law 1007 = .ok (.aload_n 0, 1) := gdL_law_1005.2.2.1
theorem dL_law_1008 : decode cL_law 1008 = .ok (.iload 4, 2) := gdL_law_1005.2.2.2.1
theorem dL_law_1010 : decode cL_law 1010 = .ok (.iconst 3, 1) := gdL_law_1005.2.2.2.2.1
theorem dL_law_1011 : decode cL_law 1011 = .ok (.iadd, 1) := gdL_law_1005.2.2.2.2.2
theorem gdL_law_1012 : (decode cL_law 1012 = .ok (.iaload, 1)) ∧ (decode cL_law 1013 = .ok (.aload_n 0, 1)) ∧ (decode cL_law 1014 = .ok (.iload 4, 2)) ∧ (decode cL_law 1016 = .ok (.iconst 4, 1)) ∧ (decode cL_law 1017 = .ok (.iadd, 1)) ∧ (decode cL_law 1018 = .ok (.iaload, 1)) := by decide +kernel
theorem dL_law_1012 : decode cL_law 1012 = .ok (.iaload, 1) := gdL_law_1012.1
theorem dL_law_1013 : decode cL_law 1013 = .ok (.aload_n 0, 1) := gdL_law_1012.2.1
theorem dL_law_1014 : decode cL_law 1014 = .ok (.iload 4, 2) := gdL_law_1012.2.2.1
theorem dL_law_1016 : decode cL_law 1016 = .ok (.iconst 4, 1) := gdL_law_1012.2.2.2.1
theorem dL_law_1017 : decode cL_law 1017 = .ok (.iadd, 1) := gdL_law_1012.2.2.2.2.1
theorem dL_law_1018 : decode cL_law 1018 = .ok (.iaload, 1) := gdL_law_1012.2.2.2.2.2
theorem gdL_law_1019 : (decode cL_law 1019 = .ok (.aload_n 0, 1)) ∧ (decode cL_law 1020 = .ok (.iload 4, 2)) ∧ (decode cL_law 1022 = .ok (.iconst 5, 1)) ∧ (decode cL_law 1023 = .ok (.iadd, 1)) ∧ (decode cL_law 1024 = .ok (.iaload, 1)) ∧ (decode cL_law 1025 = .ok (.invokevirtual 207, 3)) := by decide +kernel
theorem dL_law_1019 : decode cL_law 1019 = .ok (.aload_n 0, 1) := gdL_law_1019.1
theorem dL_law_1020 : decode cL_law 1020 = .ok (.iload 4, 2) := gdL_law_1019.2.1
theorem dL_law_1022 : decode cL_law 1022 = .ok (.iconst 5, 1) := gdL_law_1019.2.2.1
theorem dL_law_1023 : decode cL_law 1023 = .ok (.iadd, 1) := gdL_law_1019.2.2.2.1
theorem dL_law_1024 : decode cL_law 1024 = .ok (.iaload, 1) := gdL_law_1019.2.2.2.2.1
theorem dL_law_1025 : decode cL_law 1025 = .ok (.invokevirtual 207, 3) := gdL_law_1019.2.2.2.2.2
theorem gdL_law_1028 : (decode cL_law 1028 = .ok (.istore 6, 2)) ∧ (decode cL_law 1030 = .ok (.goto 1054, 3)) ∧ (decode cL_law 1033 = .ok (.aload_n 1, 1)) ∧ (decode cL_law 1034 = .ok (.aload_n 0, 1)) ∧ (decode cL_law 1035 = .ok (.iload 4, 2)) ∧ (decode cL_law 1037 = .ok (.iconst 1, 1)) := by decide +kernel
theorem dL_law_1028 : decode cL_law 1028 = .ok (.istore 6, 2) := gdL_law_1028.1
theorem dL_law_1030 : decode cL_law 1030 = .ok (.goto 1054, 3) := gdL_law_1028.2.1
theorem dL_law_1033 : decode cL_law 1033 = .ok (.aload_n 1, 1) := gdL_law_1028.2.2.1
theorem dL_law_1034 : decode cL_law 1034 = .ok (.aload_n 0, 1) := gdL_law_1028.2.2.2.1
theorem dL_law_1035 : decode cL_law 1035 = .ok (.iload 4, 2) := gdL_law_1028.2.2.2.2.1
theorem dL_law_1037 : decode cL_law 1037 = .ok (.iconst 1, 1) := gdL_law_1028.2.2.2.2.2
theorem gdL_law_1038 : (decode cL_law 1038 = .ok (.iadd, 1)) ∧ (decode cL_law 1039 = .ok (.iaload, 1)) ∧ (decode cL_law 1040 = .ok (.aload_n 0, 1)) ∧ (decode cL_law 1041 = .ok (.iload 4, 2)) ∧ (decode cL_law 1043 = .ok (.iconst 2, 1)) ∧ (decode cL_law 1044 = .ok (.iadd, 1)) := by decide +kernel
theorem dL_law_1038 : decode cL_law 1038 = .ok (.iadd, 1) := gdL_law_1038.1
theorem dL_law_1039 : decode cL_law 1039 = .ok (.iaload, 1) := gdL_law_1038.2.1
theorem dL_law_1040 : decode cL_law 1040 = .ok (.aload_n 0, 1) := gdL_law_1038.2.2.1
theorem dL_law_1041 : decode cL_law 1041 = .ok (.iload 4, 2) := gdL_law_1038.2.2.2.1
theorem dL_law_1043 : decode cL_law 1043 = .ok (.iconst 2, 1) := gdL_law_1038.2.2.2.2.1
theorem dL_law_1044 : decode cL_law 1044 = .ok (.iadd, 1) := gdL_law_1038.2.2.2.2.2
theorem gdL_law_1045 : (decode cL_law 1045 = .ok (.iaload, 1)) ∧ (decode cL_law 1046 = .ok (.aload_n 0, 1)) ∧ (decode cL_law 1047 = .ok (.iload 4, 2)) ∧ (decode cL_law 1049 = .ok (.iconst 3, 1)) ∧ (decode cL_law 1050 = .ok (.iadd, 1)) ∧ (decode cL_law 1051 = .ok (.iaload, 1)) := by decide +kernel
theorem dL_law_1045 : decode cL_law 1045 = .ok (.iaload, 1) := gdL_law_1045.1
theorem dL_law_1046 : decode cL_law 1046 = .ok (.aload_n 0, 1) := gdL_law_1045.2.1
theorem dL_law_1047 : decode cL_law 1047 = .ok (.iload 4, 2) := gdL_law_1045.2.2.1
theorem dL_law_1049 : decode cL_law 1049 = .ok (.iconst 3, 1) := gdL_law_1045.2.2.2.1
theorem dL_law_1050 : decode cL_law 1050 = .ok (.iadd, 1) := gdL_law_1045.2.2.2.2.1
theorem dL_law_1051 : decode cL_law 1051 = .ok (.iaload, 1) := gdL_law_1045.2.2.2.2.2
theorem gdL_law_1052 : (decode cL_law 1052 = .ok (.aload_n 0, 1)) ∧ (decode cL_law 1053 = .ok (.iload 4, 2)) ∧ (decode cL_law 1055 = .ok (.iconst 4, 1)) ∧ (decode cL_law 1056 = .ok (.iadd, 1)) ∧ (decode cL_law 1057 = .ok (.iaload, 1)) ∧ (decode cL_law 1058 = .ok (.aload_n 0, 1)) := by decide +kernel
theorem dL_law_1052 : decode cL_law 1052 = .ok (.aload_n 0, 1) := gdL_law_1052.1
theorem dL_law_1053 : decode cL_law 1053 = .ok (.iload 4, 2) := gdL_law_1052.2.1
theorem dL_law_1055 : decode cL_law 1055 = .ok (.iconst 4, 1) := gdL_law_1052.2.2.1
theorem dL_law_1056 : decode cL_law 1056 = .ok (.iadd, 1) := gdL_law_1052.2.2.2.1
theorem dL_law_1057 : decode cL_law 1057 = .ok (.iaload, 1) := gdL_law_1052.2.2.2.2.1
theorem dL_law_1058 : decode cL_law 1058 = .ok (.aload_n 0, 1) := gdL_law_1052.2.2.2.2.2
theorem gdL_law_1059 : (decode cL_law 1059 = .ok (.iload 4, 2)) ∧ (decode cL_law 1061 = .ok (.iconst 5, 1)) ∧ (decode cL_law 1062 = .ok (.iadd, 1)) ∧ (decode cL_law 1063 = .ok (.iaload, 1)) ∧ (decode cL_law 1064 = .ok (.aload_n 3, 1)) ∧ (decode cL_law 1065 = .ok (.invokestatic 208, 3)) := by decide +kernel
theorem dL_law_1059 : decode cL_law 1059 = .ok (.iload 4, 2) := gdL_law_1059.1
theorem dL_law_1061 : decode cL_law 1061 = .ok (.iconst 5, 1) := gdL_law_1059.2.1
theorem dL_law_1062 : decode cL_law 1062 = .ok (.iadd, 1) := gdL_law_1059.2.2.1
theorem dL_law_1063 : decode cL_law 1063 = .ok (.iaload, 1) := gdL_law_1059.2.2.2.1
theorem dL_law_1064 : decode cL_law 1064 = .ok (.aload_n 3, 1) := gdL_law_1059.2.2.2.2.1
theorem dL_law_1065 : decode cL_law 1065 = .ok (.invokestatic 208, 3) := gdL_law_1059.2.2.2.2.2
theorem gdL_law_1068 : (decode cL_law 1068 = .ok (.istore 5, 2)) ∧ (decode cL_law 1070 = .ok (.aload_n 2, 1)) ∧ (decode cL_law 1071 = .ok (.aload_n 0, 1)) ∧ (decode cL_law 1072 = .ok (.iload 4, 2)) ∧ (decode cL_law 1074 = .ok (.iconst 1, 1)) ∧ (decode cL_law 1075 = .ok (.iadd, 1)) := by decide +kernel
theorem dL_law_1068 : decode cL_law 1068 = .ok (.istore 5, 2) := gdL_law_1068.1
theorem dL_law_1070 : decode cL_law 1070 = .ok (.aload_n 2, 1) := gdL_law_1068.2.1
theorem dL_law_1071 : decode cL_law 1071 = .ok (.aload_n 0, 1) := gdL_law_1068.2.2.1
theorem dL_law_1072 : decode cL_law 1072 = .ok (.iload 4, 2) := gdL_law_1068.2.2.2.1
theorem dL_law_1074 : decode cL_law 1074 = .ok (.iconst 1, 1) := gdL_law_1068.2.2.2.2.1
theorem dL_law_1075 : decode cL_law 1075 = .ok (.iadd, 1) := gdL_law_1068.2.2.2.2.2
theorem gdL_law_1076 : (decode cL_law 1076 = .ok (.iaload, 1)) ∧ (decode cL_law 1077 = .ok (.aload_n 0, 1)) ∧ (decode cL_law 1078 = .ok (.iload 4, 2)) ∧ (decode cL_law 1080 = .ok (.iconst 2, 1)) ∧ (decode cL_law 1081 = .ok (.iadd, 1)) ∧ (decode cL_law 1082 = .ok (.iaload, 1)) := by decide +kernel
theorem dL_law_1076 : decode cL_law 1076 = .ok (.iaload, 1) := gdL_law_1076.1
theorem dL_law_1077 : decode cL_law 1077 = .ok (.aload_n 0, 1) := gdL_law_1076.2.1
theorem dL_law_1078 : decode cL_law 1078 = .ok (.iload 4, 2) := gdL_law_1076.2.2.1
theorem dL_law_1080 : decode cL_law 1080 = .ok (.iconst 2, 1) := gdL_law_1076.2.2.2.1
theorem dL_law_1081 : decode cL_law 1081 = .ok (.iadd, 1) := gdL_law_1076.2.2.2.2.1
theorem dL_law_1082 : decode cL_law 1082 = .ok (.iaload, 1) := gdL_law_1076.2.2.2.2.2
theorem gdL_law_1083 : (decode cL_law 1083 = .ok (.aload_n 0, 1)) ∧ (decode cL_law 1084 = .ok (.iload 4, 2)) ∧ (decode cL_law 1086 = .ok (.iconst 3, 1)) ∧ (decode cL_law 1087 = .ok (.iadd, 1)) ∧ (decode cL_law 1088 = .ok (.iaload, 1)) ∧ (decode cL_law 1089 = .ok (.aload_n 0, 1)) := by decide +kernel
theorem dL_law_1083 : decode cL_law 1083 = .ok (.aload_n 0, 1) := gdL_law_1083.1
theorem dL_law_1084 : decode cL_law 1084 = .ok (.iload 4, 2) := gdL_law_1083.2.1
theorem dL_law_1086 : decode cL_law 1086 = .ok (.iconst 3, 1) := gdL_law_1083.2.2.1
theorem dL_law_1087 : decode cL_law 1087 = .ok (.iadd, 1) := gdL_law_1083.2.2.2.1
theorem dL_law_1088 : decode cL_law 1088 = .ok (.iaload, 1) := gdL_law_1083.2.2.2.2.1
theorem dL_law_1089 : decode cL_law 1089 = .ok (.aload_n 0, 1) := gdL_law_1083.2.2.2.2.2
theorem gdL_law_1090 : (decode cL_law 1090 = .ok (.iload 4, 2)) ∧ (decode cL_law 1092 = .ok (.iconst 4, 1)) ∧ (decode cL_law 1093 = .ok (.iadd, 1)) ∧ (decode cL_law 1094 = .ok (.iaload, 1)) ∧ (decode cL_law 1095 = .ok (.aload_n 0, 1)) ∧ (decode cL_law 1096 = .ok (.iload 4, 2)) := by decide +kernel
theorem dL_law_1090 : decode cL_law 1090 = .ok (.iload 4, 2) := gdL_law_1090.1
theorem dL_law_1092 : decode cL_law 1092 = .ok (.iconst 4, 1) := gdL_law_1090.2.1
theorem dL_law_1093 : decode cL_law 1093 = .ok (.iadd, 1) := gdL_law_1090.2.2.1
theorem dL_law_1094 : decode cL_law 1094 = .ok (.iaload, 1) := gdL_law_1090.2.2.2.1
theorem dL_law_1095 : decode cL_law 1095 = .ok (.aload_n 0, 1) := gdL_law_1090.2.2.2.2.1
theorem dL_law_1096 : decode cL_law 1096 = .ok (.iload 4, 2) := gdL_law_1090.2.2.2.2.2
theorem gdL_law_1098 : (decode cL_law 1098 = .ok (.iconst 5, 1)) ∧ (decode cL_law 1099 = .ok (.iadd, 1)) ∧ (decode cL_law 1100 = .ok (.iaload, 1)) ∧ (decode cL_law 1101 = .ok (.invokevirtual 210, 3)) ∧ (decode cL_law 1104 = .ok (.istore 6, 2)) ∧ (decode cL_law 1106 = .ok (.goto 978, 3)) := by decide +kernel
theorem dL_law_1098 : decode cL_law 1098 = .ok (.iconst 5, 1) := gdL_law_1098.1
theorem dL_law_1099 : decode cL_law 1099 = .ok (.iadd, 1) := gdL_law_1098.2.1
theorem dL_law_1100 : decode cL_law 1100 = .ok (.iaload, 1) := gdL_law_1098.2.2.1
theorem dL_law_1101 : decode cL_law 1101 = .ok (.invokevirtual 210, 3) := gdL_law_1098.2.2.2.1
theorem dL_law_1104 : decode cL_law 1104 = .ok (.istore 6, 2) := gdL_law_1098.2.2.2.2.1
theorem dL_law_1106 : decode cL_law 1106 = .ok (.goto 978, 3) := gdL_law_1098.2.2.2.2.2
theorem gdL_law_1109 : (decode cL_law 1109 = .ok (.aload_n 1, 1)) ∧ (decode cL_law 1110 = .ok (.aload_n 0, 1)) ∧ (decode cL_law 1111 = .ok (.iload 4, 2)) ∧ (decode cL_law 1113 = .ok (.iconst 1, 1)) ∧ (decode cL_law 1114 = .ok (.iadd, 1)) ∧ (decode cL_law 1115 = .ok (.iaload, 1)) := by decide +kernel
theorem dL_law_1109 : decode cL_law 1109 = .ok (.aload_n 1, 1) := gdL_law_1109.1
theorem dL_law_1110 : decode cL_law 1110 = .ok (.aload_n 0, 1) := gdL_law_1109.2.1
theorem dL_law_1111 : decode cL_law 1111 = .ok (.iload 4, 2) := gdL_law_1109.2.2.1
theorem dL_law_1113 : decode cL_law 1113 = .ok (.iconst 1, 1) := gdL_law_1109.2.2.2.1
theorem dL_law_1114 : decode cL_law 1114 = .ok (.iadd, 1) := gdL_law_1109.2.2.2.2.1
theorem dL_law_1115 : decode cL_law 1115 = .ok (.iaload, 1) := gdL_law_1109.2.2.2.2.2
theorem gdL_law_1116 : (decode cL_law 1116 = .ok (.aload_n 0, 1)) ∧ (decode cL_law 1117 = .ok (.iload 4, 2)) ∧ (decode cL_law 1119 = .ok (.iconst 2, 1)) ∧ (decode cL_law 1120 = .ok (.iadd, 1)) ∧ (decode cL_law 1121 = .ok (.iaload, 1)) ∧ (decode cL_law 1122 = .ok (.aload_n 3, 1)) := by decide +kernel
theorem dL_law_1116 : decode cL_law 1116 = .ok (.aload_n 0, 1) := gdL_law_1116.1
theorem dL_law_1117 : decode cL_law 1117 = .ok (.iload 4, 2) := gdL_law_1116.2.1
theorem dL_law_1119 : decode cL_law 1119 = .ok (.iconst 2, 1) := gdL_law_1116.2.2.1
theorem dL_law_1120 : decode cL_law 1120 = .ok (.iadd, 1) := gdL_law_1116.2.2.2.1
theorem dL_law_1121 : decode cL_law 1121 = .ok (.iaload, 1) := gdL_law_1116.2.2.2.2.1
theorem dL_law_1122 : decode cL_law 1122 = .ok (.aload_n 3, 1) := gdL_law_1116.2.2.2.2.2
theorem gdL_law_1123 : (decode cL_law 1123 = .ok (.invokestatic 211, 3)) ∧ (decode cL_law 1126 = .ok (.istore 5, 2)) ∧ (decode cL_law 1128 = .ok (.aload_n 2, 1)) ∧ (decode cL_law 1129 = .ok (.aload_n 0, 1)) ∧ (decode cL_law 1130 = .ok (.iload 4, 2)) ∧ (decode cL_law 1132 = .ok (.iconst 1, 1)) := by decide +kernel
theorem dL_law_1123 : decode cL_law 1123 = .ok (.invokestatic 211, 3) := gdL_law_1123.1
theorem dL_law_1126 : decode cL_law 1126 = .ok (.istore 5, 2) := gdL_law_1123.2.1
theorem dL_law_1128 : decode cL_law 1128 = .ok (.aload_n 2, 1) := gdL_law_1123.2.2.1
theorem dL_law_1129 : decode cL_law 1129 = .ok (.aload_n 0, 1) := gdL_law_1123.2.2.2.1
theorem dL_law_1130 : decode cL_law 1130 = .ok (.iload 4, 2) := gdL_law_1123.2.2.2.2.1
theorem dL_law_1132 : decode cL_law 1132 = .ok (.iconst 1, 1) := gdL_law_1123.2.2.2.2.2
theorem gdL_law_1133 : (decode cL_law 1133 = .ok (.iadd, 1)) ∧ (decode cL_law 1134 = .ok (.iaload, 1)) ∧ (decode cL_law 1135 = .ok (.aload_n 0, 1)) ∧ (decode cL_law 1136 = .ok (.iload 4, 2)) ∧ (decode cL_law 1138 = .ok (.iconst 2, 1)) ∧ (decode cL_law 1139 = .ok (.iadd, 1)) := by decide +kernel
theorem dL_law_1133 : decode cL_law 1133 = .ok (.iadd, 1) := gdL_law_1133.1
theorem dL_law_1134 : decode cL_law 1134 = .ok (.iaload, 1) := gdL_law_1133.2.1
theorem dL_law_1135 : decode cL_law 1135 = .ok (.aload_n 0, 1) := gdL_law_1133.2.2.1
theorem dL_law_1136 : decode cL_law 1136 = .ok (.iload 4, 2) := gdL_law_1133.2.2.2.1
theorem dL_law_1138 : decode cL_law 1138 = .ok (.iconst 2, 1) := gdL_law_1133.2.2.2.2.1
theorem dL_law_1139 : decode cL_law 1139 = .ok (.iadd, 1) := gdL_law_1133.2.2.2.2.2
theorem gdL_law_1140 : (decode cL_law 1140 = .ok (.iaload, 1)) ∧ (decode cL_law 1141 = .ok (.invokevirtual 213, 3)) ∧ (decode cL_law 1144 = .ok (.istore 6, 2)) ∧ (decode cL_law 1146 = .ok (.goto 938, 3)) ∧ (decode cL_law 1149 = .ok (.aload_n 1, 1)) ∧ (decode cL_law 1150 = .ok (.aload_n 0, 1)) := by decide +kernel
theorem dL_law_1140 : decode cL_law 1140 = .ok (.iaload, 1) := gdL_law_1140.1
theorem dL_law_1141 : decode cL_law 1141 = .ok (.invokevirtual 213, 3) := gdL_law_1140.2.1
theorem dL_law_1144 : decode cL_law 1144 = .ok (.istore 6, 2) := gdL_law_1140.2.2.1
theorem dL_law_1146 : decode cL_law 1146 = .ok (.goto 938, 3) := gdL_law_1140.2.2.2.1
theorem dL_law_1149 : decode cL_law 1149 = .ok (.aload_n 1, 1) := gdL_law_1140.2.2.2.2.1
theorem dL_law_1150 : decode cL_law 1150 = .ok (.aload_n 0, 1) := gdL_law_1140.2.2.2.2.2
theorem gdL_law_1151 : (decode cL_law 1151 = .ok (.iload 4, 2)) ∧ (decode cL_law 1153 = .ok (.iconst 1, 1)) ∧ (decode cL_law 1154 = .ok (.iadd, 1)) ∧ (decode cL_law 1155 = .ok (.iaload, 1)) ∧ (decode cL_law 1156 = .ok (.aload_n 0, 1)) ∧ (decode cL_law 1157 = .ok (.iload 4, 2)) := by decide +kernel
theorem dL_law_1151 : decode cL_law 1151 = .ok (.iload 4, 2) := gdL_law_1151.1
theorem dL_law_1153 : decode cL_law 1153 = .ok (.iconst 1, 1) := gdL_law_1151.2.1
theorem dL_law_1154 : decode cL_law 1154 = .ok (.iadd, 1) := gdL_law_1151.2.2.1
theorem dL_law_1155 : decode cL_law 1155 = .ok (.iaload, 1) := gdL_law_1151.2.2.2.1
theorem dL_law_1156 : decode cL_law 1156 = .ok (.aload_n 0, 1) := gdL_law_1151.2.2.2.2.1
theorem dL_law_1157 : decode cL_law 1157 = .ok (.iload 4, 2) := gdL_law_1151.2.2.2.2.2
theorem gdL_law_1159 : (decode cL_law 1159 = .ok (.iconst 2, 1)) ∧ (decode cL_law 1160 = .ok (.iadd, 1)) ∧ (decode cL_law 1161 = .ok (.iaload, 1)) ∧ (decode cL_law 1162 = .ok (.aload_n 3, 1)) ∧ (decode cL_law 1163 = .ok (.invokestatic 214, 3)) ∧ (decode cL_law 1166 = .ok (.istore 5, 2)) := by decide +kernel
theorem dL_law_1159 : decode cL_law 1159 = .ok (.iconst 2, 1) := gdL_law_1159.1
theorem dL_law_1160 : decode cL_law 1160 = .ok (.iadd, 1) := gdL_law_1159.2.1
theorem dL_law_1161 : decode cL_law 1161 = .ok (.iaload, 1) := gdL_law_1159.2.2.1
theorem dL_law_1162 : decode cL_law 1162 = .ok (.aload_n 3, 1) := gdL_law_1159.2.2.2.1
theorem dL_law_1163 : decode cL_law 1163 = .ok (.invokestatic 214, 3) := gdL_law_1159.2.2.2.2.1
theorem dL_law_1166 : decode cL_law 1166 = .ok (.istore 5, 2) := gdL_law_1159.2.2.2.2.2
theorem gdL_law_1168 : (decode cL_law 1168 = .ok (.aload_n 2, 1)) ∧ (decode cL_law 1169 = .ok (.aload_n 0, 1)) ∧ (decode cL_law 1170 = .ok (.iload 4, 2)) ∧ (decode cL_law 1172 = .ok (.iconst 1, 1)) ∧ (decode cL_law 1173 = .ok (.iadd, 1)) ∧ (decode cL_law 1174 = .ok (.iaload, 1)) := by decide +kernel
theorem dL_law_1168 : decode cL_law 1168 = .ok (.aload_n 2, 1) := gdL_law_1168.1
theorem dL_law_1169 : decode cL_law 1169 = .ok (.aload_n 0, 1) := gdL_law_1168.2.1
theorem dL_law_1170 : decode cL_law 1170 = .ok (.iload 4, 2) := gdL_law_1168.2.2.1
theorem dL_law_1172 : decode cL_law 1172 = .ok (.iconst 1, 1) := gdL_law_1168.2.2.2.1
theorem dL_law_1173 : decode cL_law 1173 = .ok (.iadd, 1) := gdL_law_1168.2.2.2.2.1
theorem dL_law_1174 : decode cL_law 1174 = .ok (.iaload, 1) := gdL_law_1168.2.2.2.2.2
theorem gdL_law_1175 : (decode cL_law 1175 = .ok (.aload_n 0, 1)) ∧ (decode cL_law 1176 = .ok (.iload 4, 2)) ∧ (decode cL_law 1178 = .ok (.iconst 2, 1)) ∧ (decode cL_law 1179 = .ok (.iadd, 1)) ∧ (decode cL_law 1180 = .ok (.iaload, 1)) ∧ (decode cL_law 1181 = .ok (.invokevirtual 216, 3)) := by decide +kernel
theorem dL_law_1175 : decode cL_law 1175 = .ok (.aload_n 0, 1) := gdL_law_1175.1
theorem dL_law_1176 : decode cL_law 1176 = .ok (.iload 4, 2) := gdL_law_1175.2.1
theorem dL_law_1178 : decode cL_law 1178 = .ok (.iconst 2, 1) := gdL_law_1175.2.2.1
theorem dL_law_1179 : decode cL_law 1179 = .ok (.iadd, 1) := gdL_law_1175.2.2.2.1
theorem dL_law_1180 : decode cL_law 1180 = .ok (.iaload, 1) := gdL_law_1175.2.2.2.2.1
theorem dL_law_1181 : decode cL_law 1181 = .ok (.invokevirtual 216, 3) := gdL_law_1175.2.2.2.2.2
theorem gdL_law_1184 : (decode cL_law 1184 = .ok (.istore 6, 2)) ∧ (decode cL_law 1186 = .ok (.goto 898, 3)) ∧ (decode cL_law 1189 = .ok (.aload_n 1, 1)) ∧ (decode cL_law 1190 = .ok (.aload_n 0, 1)) ∧ (decode cL_law 1191 = .ok (.iload 4, 2)) ∧ (decode cL_law 1193 = .ok (.iconst 1, 1)) := by decide +kernel
theorem dL_law_1184 : decode cL_law 1184 = .ok (.istore 6, 2) := gdL_law_1184.1
theorem dL_law_1186 : decode cL_law 1186 = .ok (.goto 898, 3) := gdL_law_1184.2.1
theorem dL_law_1189 : decode cL_law 1189 = .ok (.aload_n 1, 1) := gdL_law_1184.2.2.1
theorem dL_law_1190 : decode cL_law 1190 = .ok (.aload_n 0, 1) := gdL_law_1184.2.2.2.1
theorem dL_law_1191 : decode cL_law 1191 = .ok (.iload 4, 2) := gdL_law_1184.2.2.2.2.1
theorem dL_law_1193 : decode cL_law 1193 = .ok (.iconst 1, 1) := gdL_law_1184.2.2.2.2.2
theorem gdL_law_1194 : (decode cL_law 1194 = .ok (.iadd, 1)) ∧ (decode cL_law 1195 = .ok (.iaload, 1)) ∧ (decode cL_law 1196 = .ok (.aload_n 0, 1)) ∧ (decode cL_law 1197 = .ok (.iload 4, 2)) ∧ (decode cL_law 1199 = .ok (.iconst 2, 1)) ∧ (decode cL_law 1200 = .ok (.iadd, 1)) := by decide +kernel
theorem dL_law_1194 : decode cL_law 1194 = .ok (.iadd, 1) := gdL_law_1194.1
theorem dL_law_1195 : decode cL_law 1195 = .ok (.iaload, 1) := gdL_law_1194.2.1
theorem dL_law_1196 : decode cL_law 1196 = .ok (.aload_n 0, 1) := gdL_law_1194.2.2.1
theorem dL_law_1197 : decode cL_law 1197 = .ok (.iload 4, 2) := gdL_law_1194.2.2.2.1
theorem dL_law_1199 : decode cL_law 1199 = .ok (.iconst 2, 1) := gdL_law_1194.2.2.2.2.1
theorem dL_law_1200 : decode cL_law 1200 = .ok (.iadd, 1) := gdL_law_1194.2.2.2.2.2
theorem gdL_law_1201 : (decode cL_law 1201 = .ok (.iaload, 1)) ∧ (decode cL_law 1202 = .ok (.aload_n 0, 1)) ∧ (decode cL_law 1203 = .ok (.iload 4, 2)) ∧ (decode cL_law 1205 = .ok (.iconst 3, 1)) ∧ (decode cL_law 1206 = .ok (.iadd, 1)) ∧ (decode cL_law 1207 = .ok (.iaload, 1)) := by decide +kernel
theorem dL_law_1201 : decode cL_law 1201 = .ok (.iaload, 1) := gdL_law_1201.1
theorem dL_law_1202 : decode cL_law 1202 = .ok (.aload_n 0, 1) := gdL_law_1201.2.1
theorem dL_law_1203 : decode cL_law 1203 = .ok (.iload 4, 2) := gdL_law_1201.2.2.1
theorem dL_law_1205 : decode cL_law 1205 = .ok (.iconst 3, 1) := gdL_law_1201.2.2.2.1
theorem dL_law_1206 : decode cL_law 1206 = .ok (.iadd, 1) := gdL_law_1201.2.2.2.2.1
theorem dL_law_1207 : decode cL_law 1207 = .ok (.iaload, 1) := gdL_law_1201.2.2.2.2.2
theorem gdL_law_1208 : (decode cL_law 1208 = .ok (.aload_n 3, 1)) ∧ (decode cL_law 1209 = .ok (.invokestatic 217, 3)) ∧ (decode cL_law 1212 = .ok (.istore 5, 2)) ∧ (decode cL_law 1214 = .ok (.aload_n 2, 1)) ∧ (decode cL_law 1215 = .ok (.aload_n 0, 1)) ∧ (decode cL_law 1216 = .ok (.iload 4, 2)) := by decide +kernel
theorem dL_law_1208 : decode cL_law 1208 = .ok (.aload_n 3, 1) := gdL_law_1208.1
theorem dL_law_1209 : decode cL_law 1209 = .ok (.invokestatic 217, 3) := gdL_law_1208.2.1
theorem dL_law_1212 : decode cL_law 1212 = .ok (.istore 5, 2) := gdL_law_1208.2.2.1
theorem dL_law_1214 : decode cL_law 1214 = .ok (.aload_n 2, 1) := gdL_law_1208.2.2.2.1
theorem dL_law_1215 : decode cL_law 1215 = .ok (.aload_n 0, 1) := gdL_law_1208.2.2.2.2.1
theorem dL_law_1216 : decode cL_law 1216 = .ok (.iload 4, 2) := gdL_law_1208.2.2.2.2.2
theorem gdL_law_1218 : (decode cL_law 1218 = .ok (.iconst 1, 1)) ∧ (decode cL_law 1219 = .ok (.iadd, 1)) ∧ (decode cL_law 1220 = .ok (.iaload, 1)) ∧ (decode cL_law 1221 = .ok (.aload_n 0, 1)) ∧ (decode cL_law 1222 = .ok (.iload 4, 2)) ∧ (decode cL_law 1224 = .ok (.iconst 2, 1)) := by decide +kernel
theorem dL_law_1218 : decode cL_law 1218 = .ok (.iconst 1, 1) := gdL_law_1218.1
theorem dL_law_1219 : decode cL_law 1219 = .ok (.iadd, 1) := gdL_law_1218.2.1
theorem dL_law_1220 : decode cL_law 1220 = .ok (.iaload, 1) := gdL_law_1218.2.2.1
theorem dL_law_1221 : decode cL_law 1221 = .ok (.aload_n 0, 1) := gdL_law_1218.2.2.2.1
theorem dL_law_1222 : decode cL_law 1222 = .ok (.iload 4, 2) := gdL_law_1218.2.2.2.2.1
theorem dL_law_1224 : decode cL_law 1224 = .ok (.iconst 2, 1) := gdL_law_1218.2.2.2.2.2
theorem gdL_law_1225 : (decode cL_law 1225 = .ok (.iadd, 1)) ∧ (decode cL_law 1226 = .ok (.iaload, 1)) ∧ (decode cL_law 1227 = .ok (.aload_n 0, 1)) ∧ (decode cL_law 1228 = .ok (.iload 4, 2)) ∧ (decode cL_law 1230 = .ok (.iconst 3, 1)) ∧ (decode cL_law 1231 = .ok (.iadd, 1)) := by decide +kernel
theorem dL_law_1225 : decode cL_law 1225 = .ok (.iadd, 1) := gdL_law_1225.1
theorem dL_law_1226 : decode cL_law 1226 = .ok (.iaload, 1) := gdL_law_1225.2.1
theorem dL_law_1227 : decode cL_law 1227 = .ok (.aload_n 0, 1) := gdL_law_1225.2.2.1
theorem dL_law_1228 : decode cL_law 1228 = .ok (.iload 4, 2) := gdL_law_1225.2.2.2.1
theorem dL_law_1230 : decode cL_law 1230 = .ok (.iconst 3, 1) := gdL_law_1225.2.2.2.2.1
theorem dL_law_1231 : decode cL_law 1231 = .ok (.iadd, 1) := gdL_law_1225.2.2.2.2.2
theorem gdL_law_1232 : (decode cL_law 1232 = .ok (.iaload, 1)) ∧ (decode cL_law 1233 = .ok (.invokevirtual 219, 3)) ∧ (decode cL_law 1236 = .ok (.istore 6, 2)) ∧ (decode cL_law 1238 = .ok (.goto 846, 3)) ∧ (decode cL_law 1241 = .ok (.aload_n 1, 1)) ∧ (decode cL_law 1242 = .ok (.aload_n 0, 1)) := by decide +kernel
theorem dL_law_1232 : decode cL_law 1232 = .ok (.iaload, 1) := gdL_law_1232.1
theorem dL_law_1233 : decode cL_law 1233 = .ok (.invokevirtual 219, 3) := gdL_law_1232.2.1
theorem dL_law_1236 : decode cL_law 1236 = .ok (.istore 6, 2) := gdL_law_1232.2.2.1
theorem dL_law_1238 : decode cL_law 1238 = .ok (.goto 846, 3) := gdL_law_1232.2.2.2.1
theorem dL_law_1241 : decode cL_law 1241 = .ok (.aload_n 1, 1) := gdL_law_1232.2.2.2.2.1
theorem dL_law_1242 : decode cL_law 1242 = .ok (.aload_n 0, 1) := gdL_law_1232.2.2.2.2.2
theorem gdL_law_1243 : (decode cL_law 1243 = .ok (.iload 4, 2)) ∧ (decode cL_law 1245 = .ok (.iconst 1, 1)) ∧ (decode cL_law 1246 = .ok (.iadd, 1)) ∧ (decode cL_law 1247 = .ok (.iaload, 1)) ∧ (decode cL_law 1248 = .ok (.aload_n 0, 1)) ∧ (decode cL_law 1249 = .ok (.iload 4, 2)) := by decide +kernel
theorem dL_law_1243 : decode cL_law 1243 = .ok (.iload 4, 2) := gdL_law_1243.1
theorem dL_law_1245 : decode cL_law 1245 = .ok (.iconst 1, 1) := gdL_law_1243.2.1
theorem dL_law_1246 : decode cL_law 1246 = .ok (.iadd, 1) := gdL_law_1243.2.2.1
theorem dL_law_1247 : decode cL_law 1247 = .ok (.iaload, 1) := gdL_law_1243.2.2.2.1
theorem dL_law_1248 : decode cL_law 1248 = .ok (.aload_n 0, 1) := gdL_law_1243.2.2.2.2.1
theorem dL_law_1249 : decode cL_law 1249 = .ok (.iload 4, 2) := gdL_law_1243.2.2.2.2.2
theorem gdL_law_1251 : (decode cL_law 1251 = .ok (.iconst 2, 1)) ∧ (decode cL_law 1252 = .ok (.iadd, 1)) ∧ (decode cL_law 1253 = .ok (.iaload, 1)) ∧ (decode cL_law 1254 = .ok (.aload_n 3, 1)) ∧ (decode cL_law 1255 = .ok (.invokestatic 220, 3)) ∧ (decode cL_law 1258 = .ok (.istore 5, 2)) := by decide +kernel
theorem dL_law_1251 : decode cL_law 1251 = .ok (.iconst 2, 1) := gdL_law_1251.1
theorem dL_law_1252 : decode cL_law 1252 = .ok (.iadd, 1) := gdL_law_1251.2.1
theorem dL_law_1253 : decode cL_law 1253 = .ok (.iaload, 1) := gdL_law_1251.2.2.1
theorem dL_law_1254 : decode cL_law 1254 = .ok (.aload_n 3, 1) := gdL_law_1251.2.2.2.1
theorem dL_law_1255 : decode cL_law 1255 = .ok (.invokestatic 220, 3) := gdL_law_1251.2.2.2.2.1
theorem dL_law_1258 : decode cL_law 1258 = .ok (.istore 5, 2) := gdL_law_1251.2.2.2.2.2
theorem gdL_law_1260 : (decode cL_law 1260 = .ok (.aload_n 2, 1)) ∧ (decode cL_law 1261 = .ok (.aload_n 0, 1)) ∧ (decode cL_law 1262 = .ok (.iload 4, 2)) ∧ (decode cL_law 1264 = .ok (.iconst 1, 1)) ∧ (decode cL_law 1265 = .ok (.iadd, 1)) ∧ (decode cL_law 1266 = .ok (.iaload, 1)) := by decide +kernel
theorem dL_law_1260 : decode cL_law 1260 = .ok (.aload_n 2, 1) := gdL_law_1260.1
theorem dL_law_1261 : decode cL_law 1261 = .ok (.aload_n 0, 1) := gdL_law_1260.2.1
theorem dL_law_1262 : decode cL_law 1262 = .ok (.iload 4, 2) := gdL_law_1260.2.2.1
theorem dL_law_1264 : decode cL_law 1264 = .ok (.iconst 1, 1) := gdL_law_1260.2.2.2.1
theorem dL_law_1265 : decode cL_law 1265 = .ok (.iadd, 1) := gdL_law_1260.2.2.2.2.1
theorem dL_law_1266 : decode cL_law 1266 = .ok (.iaload, 1) := gdL_law_1260.2.2.2.2.2
theorem gdL_law_1267 : (decode cL_law 1267 = .ok (.aload_n 0, 1)) ∧ (decode cL_law 1268 = .ok (.iload 4, 2)) ∧ (decode cL_law 1270 = .ok (.iconst 2, 1)) ∧ (decode cL_law 1271 = .ok (.iadd, 1)) ∧ (decode cL_law 1272 = .ok (.iaload, 1)) ∧ (decode cL_law 1273 = .ok (.invokevirtual 222, 3)) := by decide +kernel
theorem dL_law_1267 : decode cL_law 1267 = .ok (.aload_n 0, 1) := gdL_law_1267.1
theorem dL_law_1268 : decode cL_law 1268 = .ok (.iload 4, 2) := gdL_law_1267.2.1
theorem dL_law_1270 : decode cL_law 1270 = .ok (.iconst 2, 1) := gdL_law_1267.2.2.1
theorem dL_law_1271 : decode cL_law 1271 = .ok (.iadd, 1) := gdL_law_1267.2.2.2.1
theorem dL_law_1272 : decode cL_law 1272 = .ok (.iaload, 1) := gdL_law_1267.2.2.2.2.1
theorem dL_law_1273 : decode cL_law 1273 = .ok (.invokevirtual 222, 3) := gdL_law_1267.2.2.2.2.2
theorem gdL_law_1276 : (decode cL_law 1276 = .ok (.istore 6, 2)) ∧ (decode cL_law 1278 = .ok (.goto 806, 3)) ∧ (decode cL_law 1281 = .ok (.aload_n 1, 1)) ∧ (decode cL_law 1282 = .ok (.aload_n 0, 1)) ∧ (decode cL_law 1283 = .ok (.iload 4, 2)) ∧ (decode cL_law 1285 = .ok (.iconst 1, 1)) := by decide +kernel
theorem dL_law_1276 : decode cL_law 1276 = .ok (.istore 6, 2) := gdL_law_1276.1
theorem dL_law_1278 : decode cL_law 1278 = .ok (.goto 806, 3) := gdL_law_1276.2.1
theorem dL_law_1281 : decode cL_law 1281 = .ok (.aload_n 1, 1) := gdL_law_1276.2.2.1
theorem dL_law_1282 : decode cL_law 1282 = .ok (.aload_n 0, 1) := gdL_law_1276.2.2.2.1
theorem dL_law_1283 : decode cL_law 1283 = .ok (.iload 4, 2) := gdL_law_1276.2.2.2.2.1
theorem dL_law_1285 : decode cL_law 1285 = .ok (.iconst 1, 1) := gdL_law_1276.2.2.2.2.2
theorem gdL_law_1286 : (decode cL_law 1286 = .ok (.iadd, 1)) ∧ (decode cL_law 1287 = .ok (.iaload, 1)) ∧ (decode cL_law 1288 = .ok (.aload_n 0, 1)) ∧ (decode cL_law 1289 = .ok (.iload 4, 2)) ∧ (decode cL_law 1291 = .ok (.iconst 2, 1)) ∧ (decode cL_law 1292 = .ok (.iadd, 1)) := by decide +kernel
theorem dL_law_1286 : decode cL_law 1286 = .ok (.iadd, 1) := gdL_law_1286.1
theorem dL_law_1287 : decode cL_law 1287 = .ok (.iaload, 1) := gdL_law_1286.2.1
theorem dL_law_1288 : decode cL_law 1288 = .ok (.aload_n 0, 1) := gdL_law_1286.2.2.1
theorem dL_law_1289 : decode cL_law 1289 = .ok (.iload 4, 2) := gdL_law_1286.2.2.2.1
theorem dL_law_1291 : decode cL_law 1291 = .ok (.iconst 2, 1) := gdL_law_1286.2.2.2.2.1
theorem dL_law_1292 : decode cL_law 1292 = .ok (.iadd, 1) := gdL_law_1286.2.2.2.2.2
theorem gdL_law_1293 : (decode cL_law 1293 = .ok (.iaload, 1)) ∧ (decode cL_law 1294 = .ok (.aload_n 0, 1)) ∧ (decode cL_law 1295 = .ok (.iload 4, 2)) ∧ (decode cL_law 1297 = .ok (.iconst 3, 1)) ∧ (decode cL_law 1298 = .ok (.iadd, 1)) ∧ (decode cL_law 1299 = .ok (.iaload, 1)) := by decide +kernel
theorem dL_law_1293 : decode cL_law 1293 = .ok (.iaload, 1) := gdL_law_1293.1
theorem dL_law_1294 : decode cL_law 1294 = .ok (.aload_n 0, 1) := gdL_law_1293.2.1
theorem dL_law_1295 : decode cL_law 1295 = .ok (.iload 4, 2) := gdL_law_1293.2.2.1
theorem dL_law_1297 : decode cL_law 1297 = .ok (.iconst 3, 1) := gdL_law_1293.2.2.2.1
theorem dL_law_1298 : decode cL_law 1298 = .ok (.iadd, 1) := gdL_law_1293.2.2.2.2.1
theorem dL_law_1299 : decode cL_law 1299 = .ok (.iaload, 1) := gdL_law_1293.2.2.2.2.2
theorem gdL_law_1300 : (decode cL_law 1300 = .ok (.aload_n 3, 1)) ∧ (decode cL_law 1301 = .ok (.invokestatic 223, 3)) ∧ (decode cL_law 1304 = .ok (.istore 5, 2)) ∧ (decode cL_law 1306 = .ok (.aload_n 2, 1)) ∧ (decode cL_law 1307 = .ok (.aload_n 0, 1)) ∧ (decode cL_law 1308 = .ok (.iload 4, 2)) := by decide +kernel
theorem dL_law_1300 : decode cL_law 1300 = .ok (.aload_n 3, 1) := gdL_law_1300.1
theorem dL_law_1301 : decode cL_law 1301 = .ok (.invokestatic 223, 3) := gdL_law_1300.2.1
theorem dL_law_1304 : decode cL_law 1304 = .ok (.istore 5, 2) := gdL_law_1300.2.2.1
theorem dL_law_1306 : decode cL_law 1306 = .ok (.aload_n 2, 1) := gdL_law_1300.2.2.2.1
theorem dL_law_1307 : decode cL_law 1307 = .ok (.aload_n 0, 1) := gdL_law_1300.2.2.2.2.1
theorem dL_law_1308 : decode cL_law 1308 = .ok (.iload 4, 2) := gdL_law_1300.2.2.2.2.2
theorem gdL_law_1310 : (decode cL_law 1310 = .ok (.iconst 1, 1)) ∧ (decode cL_law 1311 = .ok (.iadd, 1)) ∧ (decode cL_law 1312 = .ok (.iaload, 1)) ∧ (decode cL_law 1313 = .ok (.aload_n 0, 1)) ∧ (decode cL_law 1314 = .ok (.iload 4, 2)) ∧ (decode cL_law 1316 = .ok (.iconst 2, 1)) := by decide +kernel
theorem dL_law_1310 : decode cL_law 1310 = .ok (.iconst 1, 1) := gdL_law_1310.1
theorem dL_law_1311 : decode cL_law 1311 = .ok (.iadd, 1) := gdL_law_1310.2.1
theorem dL_law_1312 : decode cL_law 1312 = .ok (.iaload, 1) := gdL_law_1310.2.2.1
theorem dL_law_1313 : decode cL_law 1313 = .ok (.aload_n 0, 1) := gdL_law_1310.2.2.2.1
theorem dL_law_1314 : decode cL_law 1314 = .ok (.iload 4, 2) := gdL_law_1310.2.2.2.2.1
theorem dL_law_1316 : decode cL_law 1316 = .ok (.iconst 2, 1) := gdL_law_1310.2.2.2.2.2
theorem gdL_law_1317 : (decode cL_law 1317 = .ok (.iadd, 1)) ∧ (decode cL_law 1318 = .ok (.iaload, 1)) ∧ (decode cL_law 1319 = .ok (.aload_n 0, 1)) ∧ (decode cL_law 1320 = .ok (.iload 4, 2)) ∧ (decode cL_law 1322 = .ok (.iconst 3, 1)) ∧ (decode cL_law 1323 = .ok (.iadd, 1)) := by decide +kernel
theorem dL_law_1317 : decode cL_law 1317 = .ok (.iadd, 1) := gdL_law_1317.1
theorem dL_law_1318 : decode cL_law 1318 = .ok (.iaload, 1) := gdL_law_1317.2.1
theorem dL_law_1319 : decode cL_law 1319 = .ok (.aload_n 0, 1) := gdL_law_1317.2.2.1
theorem dL_law_1320 : decode cL_law 1320 = .ok (.iload 4, 2) := gdL_law_1317.2.2.2.1
theorem dL_law_1322 : decode cL_law 1322 = .ok (.iconst 3, 1) := gdL_law_1317.2.2.2.2.1
theorem dL_law_1323 : decode cL_law 1323 = .ok (.iadd, 1) := gdL_law_1317.2.2.2.2.2
theorem gdL_law_1324 : (decode cL_law 1324 = .ok (.iaload, 1)) ∧ (decode cL_law 1325 = .ok (.invokevirtual 225, 3)) ∧ (decode cL_law 1328 = .ok (.istore 6, 2)) ∧ (decode cL_law 1330 = .ok (.goto 754, 3)) ∧ (decode cL_law 1333 = .ok (.aload_n 1, 1)) ∧ (decode cL_law 1334 = .ok (.aload_n 0, 1)) := by decide +kernel
theorem dL_law_1324 : decode cL_law 1324 = .ok (.iaload, 1) := gdL_law_1324.1
theorem dL_law_1325 : decode cL_law 1325 = .ok (.invokevirtual 225, 3) := gdL_law_1324.2.1
theorem dL_law_1328 : decode cL_law 1328 = .ok (.istore 6, 2) := gdL_law_1324.2.2.1
theorem dL_law_1330 : decode cL_law 1330 = .ok (.goto 754, 3) := gdL_law_1324.2.2.2.1
theorem dL_law_1333 : decode cL_law 1333 = .ok (.aload_n 1, 1) := gdL_law_1324.2.2.2.2.1
theorem dL_law_1334 : decode cL_law 1334 = .ok (.aload_n 0, 1) := gdL_law_1324.2.2.2.2.2
theorem gdL_law_1335 : (decode cL_law 1335 = .ok (.iload 4, 2)) ∧ (decode cL_law 1337 = .ok (.iconst 1, 1)) ∧ (decode cL_law 1338 = .ok (.iadd, 1)) ∧ (decode cL_law 1339 = .ok (.iaload, 1)) ∧ (decode cL_law 1340 = .ok (.aload_n 0, 1)) ∧ (decode cL_law 1341 = .ok (.iload 4, 2)) := by decide +kernel
theorem dL_law_1335 : decode cL_law 1335 = .ok (.iload 4, 2) := gdL_law_1335.1
theorem dL_law_1337 : decode cL_law 1337 = .ok (.iconst 1, 1) := gdL_law_1335.2.1
theorem dL_law_1338 : decode cL_law 1338 = .ok (.iadd, 1) := gdL_law_1335.2.2.1
theorem dL_law_1339 : decode cL_law 1339 = .ok (.iaload, 1) := gdL_law_1335.2.2.2.1
theorem dL_law_1340 : decode cL_law 1340 = .ok (.aload_n 0, 1) := gdL_law_1335.2.2.2.2.1
theorem dL_law_1341 : decode cL_law 1341 = .ok (.iload 4, 2) := gdL_law_1335.2.2.2.2.2
theorem gdL_law_1343 : (decode cL_law 1343 = .ok (.iconst 2, 1)) ∧ (decode cL_law 1344 = .ok (.iadd, 1)) ∧ (decode cL_law 1345 = .ok (.iaload, 1)) ∧ (decode cL_law 1346 = .ok (.aload_n 0, 1)) ∧ (decode cL_law 1347 = .ok (.iload 4, 2)) ∧ (decode cL_law 1349 = .ok (.iconst 3, 1)) := by decide +kernel
theorem dL_law_1343 : decode cL_law 1343 = .ok (.iconst 2, 1) := gdL_law_1343.1
theorem dL_law_1344 : decode cL_law 1344 = .ok (.iadd, 1) := gdL_law_1343.2.1
theorem dL_law_1345 : decode cL_law 1345 = .ok (.iaload, 1) := gdL_law_1343.2.2.1
theorem dL_law_1346 : decode cL_law 1346 = .ok (.aload_n 0, 1) := gdL_law_1343.2.2.2.1
theorem dL_law_1347 : decode cL_law 1347 = .ok (.iload 4, 2) := gdL_law_1343.2.2.2.2.1
theorem dL_law_1349 : decode cL_law 1349 = .ok (.iconst 3, 1) := gdL_law_1343.2.2.2.2.2
theorem gdL_law_1350 : (decode cL_law 1350 = .ok (.iadd, 1)) ∧ (decode cL_law 1351 = .ok (.iaload, 1)) ∧ (decode cL_law 1352 = .ok (.aload_n 3, 1)) ∧ (decode cL_law 1353 = .ok (.invokestatic 226, 3)) ∧ (decode cL_law 1356 = .ok (.istore 5, 2)) ∧ (decode cL_law 1358 = .ok (.aload_n 2, 1)) := by decide +kernel
theorem dL_law_1350 : decode cL_law 1350 = .ok (.iadd, 1) := gdL_law_1350.1
theorem dL_law_1351 : decode cL_law 1351 = .ok (.iaload, 1) := gdL_law_1350.2.1
theorem dL_law_1352 : decode cL_law 1352 = .ok (.aload_n 3, 1) := gdL_law_1350.2.2.1
theorem dL_law_1353 : decode cL_law 1353 = .ok (.invokestatic 226, 3) := gdL_law_1350.2.2.2.1
theorem dL_law_1356 : decode cL_law 1356 = .ok (.istore 5, 2) := gdL_law_1350.2.2.2.2.1
theorem dL_law_1358 : decode cL_law 1358 = .ok (.aload_n 2, 1) := gdL_law_1350.2.2.2.2.2
theorem gdL_law_1359 : (decode cL_law 1359 = .ok (.aload_n 0, 1)) ∧ (decode cL_law 1360 = .ok (.iload 4, 2)) ∧ (decode cL_law 1362 = .ok (.iconst 1, 1)) ∧ (decode cL_law 1363 = .ok (.iadd, 1)) ∧ (decode cL_law 1364 = .ok (.iaload, 1)) ∧ (decode cL_law 1365 = .ok (.aload_n 0, 1)) := by decide +kernel
theorem dL_law_1359 : decode cL_law 1359 = .ok (.aload_n 0, 1) := gdL_law_1359.1
theorem dL_law_1360 : decode cL_law 1360 = .ok (.iload 4, 2) := gdL_law_1359.2.1
theorem dL_law_1362 : decode cL_law 1362 = .ok (.iconst 1, 1) := gdL_law_1359.2.2.1
theorem dL_law_1363 : decode cL_law 1363 = .ok (.iadd, 1) := gdL_law_1359.2.2.2.1
theorem dL_law_1364 : decode cL_law 1364 = .ok (.iaload, 1) := gdL_law_1359.2.2.2.2.1
theorem dL_law_1365 : decode cL_law 1365 = .ok (.aload_n 0, 1) := gdL_law_1359.2.2.2.2.2
theorem gdL_law_1366 : (decode cL_law 1366 = .ok (.iload 4, 2)) ∧ (decode cL_law 1368 = .ok (.iconst 2, 1)) ∧ (decode cL_law 1369 = .ok (.iadd, 1)) ∧ (decode cL_law 1370 = .ok (.iaload, 1)) ∧ (decode cL_law 1371 = .ok (.aload_n 0, 1)) ∧ (decode cL_law 1372 = .ok (.iload 4, 2)) := by decide +kernel
theorem dL_law_1366 : decode cL_law 1366 = .ok (.iload 4, 2) := gdL_law_1366.1
theorem dL_law_1368 : decode cL_law 1368 = .ok (.iconst 2, 1) := gdL_law_1366.2.1
theorem dL_law_1369 : decode cL_law 1369 = .ok (.iadd, 1) := gdL_law_1366.2.2.1
theorem dL_law_1370 : decode cL_law 1370 = .ok (.iaload, 1) := gdL_law_1366.2.2.2.1
theorem dL_law_1371 : decode cL_law 1371 = .ok (.aload_n 0, 1) := gdL_law_1366.2.2.2.2.1
theorem dL_law_1372 : decode cL_law 1372 = .ok (.iload 4, 2) := gdL_law_1366.2.2.2.2.2
theorem gdL_law_1374 : (decode cL_law 1374 = .ok (.iconst 3, 1)) ∧ (decode cL_law 1375 = .ok (.iadd, 1)) ∧ (decode cL_law 1376 = .ok (.iaload, 1)) ∧ (decode cL_law 1377 = .ok (.invokevirtual 228, 3)) ∧ (decode cL_law 1380 = .ok (.istore 6, 2)) ∧ (decode cL_law 1382 = .ok (.goto 702, 3)) := by decide +kernel
theorem dL_law_1374 : decode cL_law 1374 = .ok (.iconst 3, 1) := gdL_law_1374.1
theorem dL_law_1375 : decode cL_law 1375 = .ok (.iadd, 1) := gdL_law_1374.2.1
theorem dL_law_1376 : decode cL_law 1376 = .ok (.iaload, 1) := gdL_law_1374.2.2.1
theorem dL_law_1377 : decode cL_law 1377 = .ok (.invokevirtual 228, 3) := gdL_law_1374.2.2.2.1
theorem dL_law_1380 : decode cL_law 1380 = .ok (.istore 6, 2) := gdL_law_1374.2.2.2.2.1
theorem dL_law_1382 : decode cL_law 1382 = .ok (.goto 702, 3) := gdL_law_1374.2.2.2.2.2
theorem gdL_law_1385 : (decode cL_law 1385 = .ok (.aload_n 1, 1)) ∧ (decode cL_law 1386 = .ok (.aload_n 0, 1)) ∧ (decode cL_law 1387 = .ok (.iload 4, 2)) ∧ (decode cL_law 1389 = .ok (.iconst 1, 1)) ∧ (decode cL_law 1390 = .ok (.iadd, 1)) ∧ (decode cL_law 1391 = .ok (.iaload, 1)) := by decide +kernel
theorem dL_law_1385 : decode cL_law 1385 = .ok (.aload_n 1, 1) := gdL_law_1385.1
theorem dL_law_1386 : decode cL_law 1386 = .ok (.aload_n 0, 1) := gdL_law_1385.2.1
theorem dL_law_1387 : decode cL_law 1387 = .ok (.iload 4, 2) := gdL_law_1385.2.2.1
theorem dL_law_1389 : decode cL_law 1389 = .ok (.iconst 1, 1) := gdL_law_1385.2.2.2.1
theorem dL_law_1390 : decode cL_law 1390 = .ok (.iadd, 1) := gdL_law_1385.2.2.2.2.1
theorem dL_law_1391 : decode cL_law 1391 = .ok (.iaload, 1) := gdL_law_1385.2.2.2.2.2
theorem gdL_law_1392 : (decode cL_law 1392 = .ok (.aload_n 0, 1)) ∧ (decode cL_law 1393 = .ok (.iload 4, 2)) ∧ (decode cL_law 1395 = .ok (.iconst 2, 1)) ∧ (decode cL_law 1396 = .ok (.iadd, 1)) ∧ (decode cL_law 1397 = .ok (.iaload, 1)) ∧ (decode cL_law 1398 = .ok (.aload_n 3, 1)) := by decide +kernel
theorem dL_law_1392 : decode cL_law 1392 = .ok (.aload_n 0, 1) := gdL_law_1392.1
theorem dL_law_1393 : decode cL_law 1393 = .ok (.iload 4, 2) := gdL_law_1392.2.1
theorem dL_law_1395 : decode cL_law 1395 = .ok (.iconst 2, 1) := gdL_law_1392.2.2.1
theorem dL_law_1396 : decode cL_law 1396 = .ok (.iadd, 1) := gdL_law_1392.2.2.2.1
theorem dL_law_1397 : decode cL_law 1397 = .ok (.iaload, 1) := gdL_law_1392.2.2.2.2.1
theorem dL_law_1398 : decode cL_law 1398 = .ok (.aload_n 3, 1) := gdL_law_1392.2.2.2.2.2
theorem gdL_law_1399 : (decode cL_law 1399 = .ok (.invokestatic 229, 3)) ∧ (decode cL_law 1402 = .ok (.istore 5, 2)) ∧ (decode cL_law 1404 = .ok (.aload_n 2, 1)) ∧ (decode cL_law 1405 = .ok (.aload_n 0, 1)) ∧ (decode cL_law 1406 = .ok (.iload 4, 2)) ∧ (decode cL_law 1408 = .ok (.iconst 1, 1)) := by decide +kernel
theorem dL_law_1399 : decode cL_law 1399 = .ok (.invokestatic 229, 3) := gdL_law_1399.1
theorem dL_law_1402 : decode cL_law 1402 = .ok (.istore 5, 2) := gdL_law_1399.2.1
theorem dL_law_1404 : decode cL_law 1404 = .ok (.aload_n 2, 1) := gdL_law_1399.2.2.1
theorem dL_law_1405 : decode cL_law 1405 = .ok (.aload_n 0, 1) := gdL_law_1399.2.2.2.1
theorem dL_law_1406 : decode cL_law 1406 = .ok (.iload 4, 2) := gdL_law_1399.2.2.2.2.1
theorem dL_law_1408 : decode cL_law 1408 = .ok (.iconst 1, 1) := gdL_law_1399.2.2.2.2.2
theorem gdL_law_1409 : (decode cL_law 1409 = .ok (.iadd, 1)) ∧ (decode cL_law 1410 = .ok (.iaload, 1)) ∧ (decode cL_law 1411 = .ok (.aload_n 0, 1)) ∧ (decode cL_law 1412 = .ok (.iload 4, 2)) ∧ (decode cL_law 1414 = .ok (.iconst 2, 1)) ∧ (decode cL_law 1415 = .ok (.iadd, 1)) := by decide +kernel
theorem dL_law_1409 : decode cL_law 1409 = .ok (.iadd, 1) := gdL_law_1409.1
theorem dL_law_1410 : decode cL_law 1410 = .ok (.iaload, 1) := gdL_law_1409.2.1
theorem dL_law_1411 : decode cL_law 1411 = .ok (.aload_n 0, 1) := gdL_law_1409.2.2.1
theorem dL_law_1412 : decode cL_law 1412 = .ok (.iload 4, 2) := gdL_law_1409.2.2.2.1
theorem dL_law_1414 : decode cL_law 1414 = .ok (.iconst 2, 1) := gdL_law_1409.2.2.2.2.1
theorem dL_law_1415 : decode cL_law 1415 = .ok (.iadd, 1) := gdL_law_1409.2.2.2.2.2
theorem gdL_law_1416 : (decode cL_law 1416 = .ok (.iaload, 1)) ∧ (decode cL_law 1417 = .ok (.invokevirtual 231, 3)) ∧ (decode cL_law 1420 = .ok (.istore 6, 2)) ∧ (decode cL_law 1422 = .ok (.goto 662, 3)) ∧ (decode cL_law 1425 = .ok (.aload_n 1, 1)) ∧ (decode cL_law 1426 = .ok (.aload_n 0, 1)) := by decide +kernel
theorem dL_law_1416 : decode cL_law 1416 = .ok (.iaload, 1) := gdL_law_1416.1
theorem dL_law_1417 : decode cL_law 1417 = .ok (.invokevirtual 231, 3) := gdL_law_1416.2.1
theorem dL_law_1420 : decode cL_law 1420 = .ok (.istore 6, 2) := gdL_law_1416.2.2.1
theorem dL_law_1422 : decode cL_law 1422 = .ok (.goto 662, 3) := gdL_law_1416.2.2.2.1
theorem dL_law_1425 : decode cL_law 1425 = .ok (.aload_n 1, 1) := gdL_law_1416.2.2.2.2.1
theorem dL_law_1426 : decode cL_law 1426 = .ok (.aload_n 0, 1) := gdL_law_1416.2.2.2.2.2
theorem gdL_law_1427 : (decode cL_law 1427 = .ok (.iload 4, 2)) ∧ (decode cL_law 1429 = .ok (.iconst 1, 1)) ∧ (decode cL_law 1430 = .ok (.iadd, 1)) ∧ (decode cL_law 1431 = .ok (.iaload, 1)) ∧ (decode cL_law 1432 = .ok (.aload_n 0, 1)) ∧ (decode cL_law 1433 = .ok (.iload 4, 2)) := by decide +kernel
theorem dL_law_1427 : decode cL_law 1427 = .ok (.iload 4, 2) := gdL_law_1427.1
theorem dL_law_1429 : decode cL_law 1429 = .ok (.iconst 1, 1) := gdL_law_1427.2.1
theorem dL_law_1430 : decode cL_law 1430 = .ok (.iadd, 1) := gdL_law_1427.2.2.1
theorem dL_law_1431 : decode cL_law 1431 = .ok (.iaload, 1) := gdL_law_1427.2.2.2.1
theorem dL_law_1432 : decode cL_law 1432 = .ok (.aload_n 0, 1) := gdL_law_1427.2.2.2.2.1
theorem dL_law_1433 : decode cL_law 1433 = .ok (.iload 4, 2) := gdL_law_1427.2.2.2.2.2
theorem gdL_law_1435 : (decode cL_law 1435 = .ok (.iconst 2, 1)) ∧ (decode cL_law 1436 = .ok (.iadd, 1)) ∧ (decode cL_law 1437 = .ok (.iaload, 1)) ∧ (decode cL_law 1438 = .ok (.aload_n 3, 1)) ∧ (decode cL_law 1439 = .ok (.invokestatic 232, 3)) ∧ (decode cL_law 1442 = .ok (.istore 5, 2)) := by decide +kernel
theorem dL_law_1435 : decode cL_law 1435 = .ok (.iconst 2, 1) := gdL_law_1435.1
theorem dL_law_1436 : decode cL_law 1436 = .ok (.iadd, 1) := gdL_law_1435.2.1
theorem dL_law_1437 : decode cL_law 1437 = .ok (.iaload, 1) := gdL_law_1435.2.2.1
theorem dL_law_1438 : decode cL_law 1438 = .ok (.aload_n 3, 1) := gdL_law_1435.2.2.2.1
theorem dL_law_1439 : decode cL_law 1439 = .ok (.invokestatic 232, 3) := gdL_law_1435.2.2.2.2.1
theorem dL_law_1442 : decode cL_law 1442 = .ok (.istore 5, 2) := gdL_law_1435.2.2.2.2.2
theorem gdL_law_1444 : (decode cL_law 1444 = .ok (.aload_n 2, 1)) ∧ (decode cL_law 1445 = .ok (.aload_n 0, 1)) ∧ (decode cL_law 1446 = .ok (.iload 4, 2)) ∧ (decode cL_law 1448 = .ok (.iconst 1, 1)) ∧ (decode cL_law 1449 = .ok (.iadd, 1)) ∧ (decode cL_law 1450 = .ok (.iaload, 1)) := by decide +kernel
theorem dL_law_1444 : decode cL_law 1444 = .ok (.aload_n 2, 1) := gdL_law_1444.1
theorem dL_law_1445 : decode cL_law 1445 = .ok (.aload_n 0, 1) := gdL_law_1444.2.1
theorem dL_law_1446 : decode cL_law 1446 = .ok (.iload 4, 2) := gdL_law_1444.2.2.1
theorem dL_law_1448 : decode cL_law 1448 = .ok (.iconst 1, 1) := gdL_law_1444.2.2.2.1
theorem dL_law_1449 : decode cL_law 1449 = .ok (.iadd, 1) := gdL_law_1444.2.2.2.2.1
theorem dL_law_1450 : decode cL_law 1450 = .ok (.iaload, 1) := gdL_law_1444.2.2.2.2.2
theorem gdL_law_1451 : (decode cL_law 1451 = .ok (.aload_n 0, 1)) ∧ (decode cL_law 1452 = .ok (.iload 4, 2)) ∧ (decode cL_law 1454 = .ok (.iconst 2, 1)) ∧ (decode cL_law 1455 = .ok (.iadd, 1)) ∧ (decode cL_law 1456 = .ok (.iaload, 1)) ∧ (decode cL_law 1457 = .ok (.invokevirtual 234, 3)) := by decide +kernel
theorem dL_law_1451 : decode cL_law 1451 = .ok (.aload_n 0, 1) := gdL_law_1451.1
theorem dL_law_1452 : decode cL_law 1452 = .ok (.iload 4, 2) := gdL_law_1451.2.1
theorem dL_law_1454 : decode cL_law 1454 = .ok (.iconst 2, 1) := gdL_law_1451.2.2.1
theorem dL_law_1455 : decode cL_law 1455 = .ok (.iadd, 1) := gdL_law_1451.2.2.2.1
theorem dL_law_1456 : decode cL_law 1456 = .ok (.iaload, 1) := gdL_law_1451.2.2.2.2.1
theorem dL_law_1457 : decode cL_law 1457 = .ok (.invokevirtual 234, 3) := gdL_law_1451.2.2.2.2.2
theorem gdL_law_1460 : (decode cL_law 1460 = .ok (.istore 6, 2)) ∧ (decode cL_law 1462 = .ok (.goto 622, 3)) ∧ (decode cL_law 1465 = .ok (.aload_n 1, 1)) ∧ (decode cL_law 1466 = .ok (.aload_n 0, 1)) ∧ (decode cL_law 1467 = .ok (.iload 4, 2)) ∧ (decode cL_law 1469 = .ok (.iconst 1, 1)) := by decide +kernel
theorem dL_law_1460 : decode cL_law 1460 = .ok (.istore 6, 2) := gdL_law_1460.1
theorem dL_law_1462 : decode cL_law 1462 = .ok (.goto 622, 3) := gdL_law_1460.2.1
theorem dL_law_1465 : decode cL_law 1465 = .ok (.aload_n 1, 1) := gdL_law_1460.2.2.1
theorem dL_law_1466 : decode cL_law 1466 = .ok (.aload_n 0, 1) := gdL_law_1460.2.2.2.1
theorem dL_law_1467 : decode cL_law 1467 = .ok (.iload 4, 2) := gdL_law_1460.2.2.2.2.1
theorem dL_law_1469 : decode cL_law 1469 = .ok (.iconst 1, 1) := gdL_law_1460.2.2.2.2.2
theorem gdL_law_1470 : (decode cL_law 1470 = .ok (.iadd, 1)) ∧ (decode cL_law 1471 = .ok (.iaload, 1)) ∧ (decode cL_law 1472 = .ok (.aload_n 0, 1)) ∧ (decode cL_law 1473 = .ok (.iload 4, 2)) ∧ (decode cL_law 1475 = .ok (.iconst 2, 1)) ∧ (decode cL_law 1476 = .ok (.iadd, 1)) := by decide +kernel
theorem dL_law_1470 : decode cL_law 1470 = .ok (.iadd, 1) := gdL_law_1470.1
theorem dL_law_1471 : decode cL_law 1471 = .ok (.iaload, 1) := gdL_law_1470.2.1
theorem dL_law_1472 : decode cL_law 1472 = .ok (.aload_n 0, 1) := gdL_law_1470.2.2.1
theorem dL_law_1473 : decode cL_law 1473 = .ok (.iload 4, 2) := gdL_law_1470.2.2.2.1
theorem dL_law_1475 : decode cL_law 1475 = .ok (.iconst 2, 1) := gdL_law_1470.2.2.2.2.1
theorem dL_law_1476 : decode cL_law 1476 = .ok (.iadd, 1) := gdL_law_1470.2.2.2.2.2
theorem gdL_law_1477 : (decode cL_law 1477 = .ok (.iaload, 1)) ∧ (decode cL_law 1478 = .ok (.aload_n 3, 1)) ∧ (decode cL_law 1479 = .ok (.invokestatic 235, 3)) ∧ (decode cL_law 1482 = .ok (.istore 5, 2)) ∧ (decode cL_law 1484 = .ok (.aload_n 2, 1)) ∧ (decode cL_law 1485 = .ok (.aload_n 0, 1)) := by decide +kernel
theorem dL_law_1477 : decode cL_law 1477 = .ok (.iaload, 1) := gdL_law_1477.1
theorem dL_law_1478 : decode cL_law 1478 = .ok (.aload_n 3, 1) := gdL_law_1477.2.1
theorem dL_law_1479 : decode cL_law 1479 = .ok (.invokestatic 235, 3) := gdL_law_1477.2.2.1
theorem dL_law_1482 : decode cL_law 1482 = .ok (.istore 5, 2) := gdL_law_1477.2.2.2.1
theorem dL_law_1484 : decode cL_law 1484 = .ok (.aload_n 2, 1) := gdL_law_1477.2.2.2.2.1
theorem dL_law_1485 : decode cL_law 1485 = .ok (.aload_n 0, 1) := gdL_law_1477.2.2.2.2.2
theorem gdL_law_1486 : (decode cL_law 1486 = .ok (.iload 4, 2)) ∧ (decode cL_law 1488 = .ok (.iconst 1, 1)) ∧ (decode cL_law 1489 = .ok (.iadd, 1)) ∧ (decode cL_law 1490 = .ok (.iaload, 1)) ∧ (decode cL_law 1491 = .ok (.aload_n 0, 1)) ∧ (decode cL_law 1492 = .ok (.iload 4, 2)) := by decide +kernel
theorem dL_law_1486 : decode cL_law 1486 = .ok (.iload 4, 2) := gdL_law_1486.1
theorem dL_law_1488 : decode cL_law 1488 = .ok (.iconst 1, 1) := gdL_law_1486.2.1
theorem dL_law_1489 : decode cL_law 1489 = .ok (.iadd, 1) := gdL_law_1486.2.2.1
theorem dL_law_1490 : decode cL_law 1490 = .ok (.iaload, 1) := gdL_law_1486.2.2.2.1
theorem dL_law_1491 : decode cL_law 1491 = .ok (.aload_n 0, 1) := gdL_law_1486.2.2.2.2.1
theorem dL_law_1492 : decode cL_law 1492 = .ok (.iload 4, 2) := gdL_law_1486.2.2.2.2.2
theorem gdL_law_1494 : (decode cL_law 1494 = .ok (.iconst 2, 1)) ∧ (decode cL_law 1495 = .ok (.iadd, 1)) ∧ (decode cL_law 1496 = .ok (.iaload, 1)) ∧ (decode cL_law 1497 = .ok (.invokevirtual 237, 3)) ∧ (decode cL_law 1500 = .ok (.istore 6, 2)) ∧ (decode cL_law 1502 = .ok (.goto 582, 3)) := by decide +kernel
theorem dL_law_1494 : decode cL_law 1494 = .ok (.iconst 2, 1) := gdL_law_1494.1
theorem dL_law_1495 : decode cL_law 1495 = .ok (.iadd, 1) := gdL_law_1494.2.1
theorem dL_law_1496 : decode cL_law 1496 = .ok (.iaload, 1) := gdL_law_1494.2.2.1
theorem dL_law_1497 : decode cL_law 1497 = .ok (.invokevirtual 237, 3) := gdL_law_1494.2.2.2.1
theorem dL_law_1500 : decode cL_law 1500 = .ok (.istore 6, 2) := gdL_law_1494.2.2.2.2.1
theorem dL_law_1502 : decode cL_law 1502 = .ok (.goto 582, 3) := gdL_law_1494.2.2.2.2.2
theorem gdL_law_1505 : (decode cL_law 1505 = .ok (.aload_n 1, 1)) ∧ (decode cL_law 1506 = .ok (.aload_n 0, 1)) ∧ (decode cL_law 1507 = .ok (.iload 4, 2)) ∧ (decode cL_law 1509 = .ok (.iconst 1, 1)) ∧ (decode cL_law 1510 = .ok (.iadd, 1)) ∧ (decode cL_law 1511 = .ok (.iaload, 1)) := by decide +kernel
theorem dL_law_1505 : decode cL_law 1505 = .ok (.aload_n 1, 1) := gdL_law_1505.1
theorem dL_law_1506 : decode cL_law 1506 = .ok (.aload_n 0, 1) := gdL_law_1505.2.1
theorem dL_law_1507 : decode cL_law 1507 = .ok (.iload 4, 2) := gdL_law_1505.2.2.1
theorem dL_law_1509 : decode cL_law 1509 = .ok (.iconst 1, 1) := gdL_law_1505.2.2.2.1
theorem dL_law_1510 : decode cL_law 1510 = .ok (.iadd, 1) := gdL_law_1505.2.2.2.2.1
theorem dL_law_1511 : decode cL_law 1511 = .ok (.iaload, 1) := gdL_law_1505.2.2.2.2.2
theorem gdL_law_1512 : (decode cL_law 1512 = .ok (.aload_n 0, 1)) ∧ (decode cL_law 1513 = .ok (.iload 4, 2)) ∧ (decode cL_law 1515 = .ok (.iconst 2, 1)) ∧ (decode cL_law 1516 = .ok (.iadd, 1)) ∧ (decode cL_law 1517 = .ok (.iaload, 1)) ∧ (decode cL_law 1518 = .ok (.aload_n 0, 1)) := by decide +kernel
theorem dL_law_1512 : decode cL_law 1512 = .ok (.aload_n 0, 1) := gdL_law_1512.1
theorem dL_law_1513 : decode cL_law 1513 = .ok (.iload 4, 2) := gdL_law_1512.2.1
theorem dL_law_1515 : decode cL_law 1515 = .ok (.iconst 2, 1) := gdL_law_1512.2.2.1
theorem dL_law_1516 : decode cL_law 1516 = .ok (.iadd, 1) := gdL_law_1512.2.2.2.1
theorem dL_law_1517 : decode cL_law 1517 = .ok (.iaload, 1) := gdL_law_1512.2.2.2.2.1
theorem dL_law_1518 : decode cL_law 1518 = .ok (.aload_n 0, 1) := gdL_law_1512.2.2.2.2.2
theorem gdL_law_1519 : (decode cL_law 1519 = .ok (.iload 4, 2)) ∧ (decode cL_law 1521 = .ok (.iconst 3, 1)) ∧ (decode cL_law 1522 = .ok (.iadd, 1)) ∧ (decode cL_law 1523 = .ok (.iaload, 1)) ∧ (decode cL_law 1524 = .ok (.aload_n 3, 1)) ∧ (decode cL_law 1525 = .ok (.invokestatic 238, 3)) := by decide +kernel
theorem dL_law_1519 : decode cL_law 1519 = .ok (.iload 4, 2) := gdL_law_1519.1
theorem dL_law_1521 : decode cL_law 1521 = .ok (.iconst 3, 1) := gdL_law_1519.2.1
theorem dL_law_1522 : decode cL_law 1522 = .ok (.iadd, 1) := gdL_law_1519.2.2.1
theorem dL_law_1523 : decode cL_law 1523 = .ok (.iaload, 1) := gdL_law_1519.2.2.2.1
theorem dL_law_1524 : decode cL_law 1524 = .ok (.aload_n 3, 1) := gdL_law_1519.2.2.2.2.1
theorem dL_law_1525 : decode cL_law 1525 = .ok (.invokestatic 238, 3) := gdL_law_1519.2.2.2.2.2
theorem gdL_law_1528 : (decode cL_law 1528 = .ok (.istore 5, 2)) ∧ (decode cL_law 1530 = .ok (.aload_n 2, 1)) ∧ (decode cL_law 1531 = .ok (.aload_n 0, 1)) ∧ (decode cL_law 1532 = .ok (.iload 4, 2)) ∧ (decode cL_law 1534 = .ok (.iconst 1, 1)) ∧ (decode cL_law 1535 = .ok (.iadd, 1)) := by decide +kernel
theorem dL_law_1528 : decode cL_law 1528 = .ok (.istore 5, 2) := gdL_law_1528.1
theorem dL_law_1530 : decode cL_law 1530 = .ok (.aload_n 2, 1) := gdL_law_1528.2.1
theorem dL_law_1531 : decode cL_law 1531 = .ok (.aload_n 0, 1) := gdL_law_1528.2.2.1
theorem dL_law_1532 : decode cL_law 1532 = .ok (.iload 4, 2) := gdL_law_1528.2.2.2.1
theorem dL_law_1534 : decode cL_law 1534 = .ok (.iconst 1, 1) := gdL_law_1528.2.2.2.2.1
theorem dL_law_1535 : decode cL_law 1535 = .ok (.iadd, 1) := gdL_law_1528.2.2.2.2.2
theorem gdL_law_1536 : (decode cL_law 1536 = .ok (.iaload, 1)) ∧ (decode cL_law 1537 = .ok (.aload_n 0, 1)) ∧ (decode cL_law 1538 = .ok (.iload 4, 2)) ∧ (decode cL_law 1540 = .ok (.iconst 2, 1)) ∧ (decode cL_law 1541 = .ok (.iadd, 1)) ∧ (decode cL_law 1542 = .ok (.iaload, 1)) := by decide +kernel
theorem dL_law_1536 : decode cL_law 1536 = .ok (.iaload, 1) := gdL_law_1536.1
theorem dL_law_1537 : decode cL_law 1537 = .ok (.aload_n 0, 1) := gdL_law_1536.2.1
theorem dL_law_1538 : decode cL_law 1538 = .ok (.iload 4, 2) := gdL_law_1536.2.2.1
theorem dL_law_1540 : decode cL_law 1540 = .ok (.iconst 2, 1) := gdL_law_1536.2.2.2.1
theorem dL_law_1541 : decode cL_law 1541 = .ok (.iadd, 1) := gdL_law_1536.2.2.2.2.1
theorem dL_law_1542 : decode cL_law 1542 = .ok (.iaload, 1) := gdL_law_1536.2.2.2.2.2
theorem gdL_law_1543 : (decode cL_law 1543 = .ok (.aload_n 0, 1)) ∧ (decode cL_law 1544 = .ok (.iload 4, 2)) ∧ (decode cL_law 1546 = .ok (.iconst 3, 1)) ∧ (decode cL_law 1547 = .ok (.iadd, 1)) ∧ (decode cL_law 1548 = .ok (.iaload, 1)) ∧ (decode cL_law 1549 = .ok (.invokevirtual 240, 3)) := by decide +kernel
theorem dL_law_1543 : decode cL_law 1543 = .ok (.aload_n 0, 1) := gdL_law_1543.1
theorem dL_law_1544 : decode cL_law 1544 = .ok (.iload 4, 2) := gdL_law_1543.2.1
theorem dL_law_1546 : decode cL_law 1546 = .ok (.iconst 3, 1) := gdL_law_1543.2.2.1
theorem dL_law_1547 : decode cL_law 1547 = .ok (.iadd, 1) := gdL_law_1543.2.2.2.1
theorem dL_law_1548 : decode cL_law 1548 = .ok (.iaload, 1) := gdL_law_1543.2.2.2.2.1
theorem dL_law_1549 : decode cL_law 1549 = .ok (.invokevirtual 240, 3) := gdL_law_1543.2.2.2.2.2
theorem gdL_law_1552 : (decode cL_law 1552 = .ok (.istore 6, 2)) ∧ (decode cL_law 1554 = .ok (.goto 530, 3)) ∧ (decode cL_law 1557 = .ok (.aload_n 1, 1)) ∧ (decode cL_law 1558 = .ok (.aload_n 0, 1)) ∧ (decode cL_law 1559 = .ok (.iload 4, 2)) ∧ (decode cL_law 1561 = .ok (.iconst 1, 1)) := by decide +kernel
theorem dL_law_1552 : decode cL_law 1552 = .ok (.istore 6, 2) := gdL_law_1552.1
theorem dL_law_1554 : decode cL_law 1554 = .ok (.goto 530, 3) := gdL_law_1552.2.1
theorem dL_law_1557 : decode cL_law 1557 = .ok (.aload_n 1, 1) := gdL_law_1552.2.2.1
theorem dL_law_1558 : decode cL_law 1558 = .ok (.aload_n 0, 1) := gdL_law_1552.2.2.2.1
theorem dL_law_1559 : decode cL_law 1559 = .ok (.iload 4, 2) := gdL_law_1552.2.2.2.2.1
theorem dL_law_1561 : decode cL_law 1561 = .ok (.iconst 1, 1) := gdL_law_1552.2.2.2.2.2
theorem gdL_law_1562 : (decode cL_law 1562 = .ok (.iadd, 1)) ∧ (decode cL_law 1563 = .ok (.iaload, 1)) ∧ (decode cL_law 1564 = .ok (.aload_n 0, 1)) ∧ (decode cL_law 1565 = .ok (.iload 4, 2)) ∧ (decode cL_law 1567 = .ok (.iconst 2, 1)) ∧ (decode cL_law 1568 = .ok (.iadd, 1)) := by decide +kernel
theorem dL_law_1562 : decode cL_law 1562 = .ok (.iadd, 1) := gdL_law_1562.1
theorem dL_law_1563 : decode cL_law 1563 = .ok (.iaload, 1) := gdL_law_1562.2.1
theorem dL_law_1564 : decode cL_law 1564 = .ok (.aload_n 0, 1) := gdL_law_1562.2.2.1
theorem dL_law_1565 : decode cL_law 1565 = .ok (.iload 4, 2) := gdL_law_1562.2.2.2.1
theorem dL_law_1567 : decode cL_law 1567 = .ok (.iconst 2, 1) := gdL_law_1562.2.2.2.2.1
theorem dL_law_1568 : decode cL_law 1568 = .ok (.iadd, 1) := gdL_law_1562.2.2.2.2.2
theorem gdL_law_1569 : (decode cL_law 1569 = .ok (.iaload, 1)) ∧ (decode cL_law 1570 = .ok (.aload_n 0, 1)) ∧ (decode cL_law 1571 = .ok (.iload 4, 2)) ∧ (decode cL_law 1573 = .ok (.iconst 3, 1)) ∧ (decode cL_law 1574 = .ok (.iadd, 1)) ∧ (decode cL_law 1575 = .ok (.iaload, 1)) := by decide +kernel
theorem dL_law_1569 : decode cL_law 1569 = .ok (.iaload, 1) := gdL_law_1569.1
theorem dL_law_1570 : decode cL_law 1570 = .ok (.aload_n 0, 1) := gdL_law_1569.2.1
theorem dL_law_1571 : decode cL_law 1571 = .ok (.iload 4, 2) := gdL_law_1569.2.2.1
theorem dL_law_1573 : decode cL_law 1573 = .ok (.iconst 3, 1) := gdL_law_1569.2.2.2.1
theorem dL_law_1574 : decode cL_law 1574 = .ok (.iadd, 1) := gdL_law_1569.2.2.2.2.1
theorem dL_law_1575 : decode cL_law 1575 = .ok (.iaload, 1) := gdL_law_1569.2.2.2.2.2
theorem gdL_law_1576 : (decode cL_law 1576 = .ok (.aload_n 3, 1)) ∧ (decode cL_law 1577 = .ok (.invokestatic 241, 3)) ∧ (decode cL_law 1580 = .ok (.istore 5, 2)) ∧ (decode cL_law 1582 = .ok (.aload_n 2, 1)) ∧ (decode cL_law 1583 = .ok (.aload_n 0, 1)) ∧ (decode cL_law 1584 = .ok (.iload 4, 2)) := by decide +kernel
theorem dL_law_1576 : decode cL_law 1576 = .ok (.aload_n 3, 1) := gdL_law_1576.1
theorem dL_law_1577 : decode cL_law 1577 = .ok (.invokestatic 241, 3) := gdL_law_1576.2.1
theorem dL_law_1580 : decode cL_law 1580 = .ok (.istore 5, 2) := gdL_law_1576.2.2.1
theorem dL_law_1582 : decode cL_law 1582 = .ok (.aload_n 2, 1) := gdL_law_1576.2.2.2.1
theorem dL_law_1583 : decode cL_law 1583 = .ok (.aload_n 0, 1) := gdL_law_1576.2.2.2.2.1
theorem dL_law_1584 : decode cL_law 1584 = .ok (.iload 4, 2) := gdL_law_1576.2.2.2.2.2
theorem gdL_law_1586 : (decode cL_law 1586 = .ok (.iconst 1, 1)) ∧ (decode cL_law 1587 = .ok (.iadd, 1)) ∧ (decode cL_law 1588 = .ok (.iaload, 1)) ∧ (decode cL_law 1589 = .ok (.aload_n 0, 1)) ∧ (decode cL_law 1590 = .ok (.iload 4, 2)) ∧ (decode cL_law 1592 = .ok (.iconst 2, 1)) := by decide +kernel
theorem dL_law_1586 : decode cL_law 1586 = .ok (.iconst 1, 1) := gdL_law_1586.1
theorem dL_law_1587 : decode cL_law 1587 = .ok (.iadd, 1) := gdL_law_1586.2.1
theorem dL_law_1588 : decode cL_law 1588 = .ok (.iaload, 1) := gdL_law_1586.2.2.1
theorem dL_law_1589 : decode cL_law 1589 = .ok (.aload_n 0, 1) := gdL_law_1586.2.2.2.1
theorem dL_law_1590 : decode cL_law 1590 = .ok (.iload 4, 2) := gdL_law_1586.2.2.2.2.1
theorem dL_law_1592 : decode cL_law 1592 = .ok (.iconst 2, 1) := gdL_law_1586.2.2.2.2.2
theorem gdL_law_1593 : (decode cL_law 1593 = .ok (.iadd, 1)) ∧ (decode cL_law 1594 = .ok (.iaload, 1)) ∧ (decode cL_law 1595 = .ok (.aload_n 0, 1)) ∧ (decode cL_law 1596 = .ok (.iload 4, 2)) ∧ (decode cL_law 1598 = .ok (.iconst 3, 1)) ∧ (decode cL_law 1599 = .ok (.iadd, 1)) := by decide +kernel
theorem dL_law_1593 : decode cL_law 1593 = .ok (.iadd, 1) := gdL_law_1593.1
theorem dL_law_1594 : decode cL_law 1594 = .ok (.iaload, 1) := gdL_law_1593.2.1
theorem dL_law_1595 : decode cL_law 1595 = .ok (.aload_n 0, 1) := gdL_law_1593.2.2.1
theorem dL_law_1596 : decode cL_law 1596 = .ok (.iload 4, 2) := gdL_law_1593.2.2.2.1
theorem dL_law_1598 : decode cL_law 1598 = .ok (.iconst 3, 1) := gdL_law_1593.2.2.2.2.1
theorem dL_law_1599 : decode cL_law 1599 = .ok (.iadd, 1) := gdL_law_1593.2.2.2.2.2
theorem gdL_law_1600 : (decode cL_law 1600 = .ok (.iaload, 1)) ∧ (decode cL_law 1601 = .ok (.invokevirtual 243, 3)) ∧ (decode cL_law 1604 = .ok (.istore 6, 2)) ∧ (decode cL_law 1606 = .ok (.goto 478, 3)) ∧ (decode cL_law 1609 = .ok (.aload_n 1, 1)) ∧ (decode cL_law 1610 = .ok (.aload_n 0, 1)) := by decide +kernel
theorem dL_law_1600 : decode cL_law 1600 = .ok (.iaload, 1) := gdL_law_1600.1
theorem dL_law_1601 : decode cL_law 1601 = .ok (.invokevirtual 243, 3) := gdL_law_1600.2.1
theorem dL_law_1604 : decode cL_law 1604 = .ok (.istore 6, 2) := gdL_law_1600.2.2.1
theorem dL_law_1606 : decode cL_law 1606 = .ok (.goto 478, 3) := gdL_law_1600.2.2.2.1
theorem dL_law_1609 : decode cL_law 1609 = .ok (.aload_n 1, 1) := gdL_law_1600.2.2.2.2.1
theorem dL_law_1610 : decode cL_law 1610 = .ok (.aload_n 0, 1) := gdL_law_1600.2.2.2.2.2
theorem gdL_law_1611 : (decode cL_law 1611 = .ok (.iload 4, 2)) ∧ (decode cL_law 1613 = .ok (.iconst 1, 1)) ∧ (decode cL_law 1614 = .ok (.iadd, 1)) ∧ (decode cL_law 1615 = .ok (.iaload, 1)) ∧ (decode cL_law 1616 = .ok (.aload_n 0, 1)) ∧ (decode cL_law 1617 = .ok (.iload 4, 2)) := by decide +kernel
theorem dL_law_1611 : decode cL_law 1611 = .ok (.iload 4, 2) := gdL_law_1611.1
theorem dL_law_1613 : decode cL_law 1613 = .ok (.iconst 1, 1) := gdL_law_1611.2.1
theorem dL_law_1614 : decode cL_law 1614 = .ok (.iadd, 1) := gdL_law_1611.2.2.1
theorem dL_law_1615 : decode cL_law 1615 = .ok (.iaload, 1) := gdL_law_1611.2.2.2.1
theorem dL_law_1616 : decode cL_law 1616 = .ok (.aload_n 0, 1) := gdL_law_1611.2.2.2.2.1
theorem dL_law_1617 : decode cL_law 1617 = .ok (.iload 4, 2) := gdL_law_1611.2.2.2.2.2
theorem gdL_law_1619 : (decode cL_law 1619 = .ok (.iconst 2, 1)) ∧ (decode cL_law 1620 = .ok (.iadd, 1)) ∧ (decode cL_law 1621 = .ok (.iaload, 1)) ∧ (decode cL_law 1622 = .ok (.aload_n 3, 1)) ∧ (decode cL_law 1623 = .ok (.invokestatic 244, 3)) ∧ (decode cL_law 1626 = .ok (.istore 5, 2)) := by decide +kernel
theorem dL_law_1619 : decode cL_law 1619 = .ok (.iconst 2, 1) := gdL_law_1619.1
theorem dL_law_1620 : decode cL_law 1620 = .ok (.iadd, 1) := gdL_law_1619.2.1
theorem dL_law_1621 : decode cL_law 1621 = .ok (.iaload, 1) := gdL_law_1619.2.2.1
theorem dL_law_1622 : decode cL_law 1622 = .ok (.aload_n 3, 1) := gdL_law_1619.2.2.2.1
theorem dL_law_1623 : decode cL_law 1623 = .ok (.invokestatic 244, 3) := gdL_law_1619.2.2.2.2.1
theorem dL_law_1626 : decode cL_law 1626 = .ok (.istore 5, 2) := gdL_law_1619.2.2.2.2.2
theorem gdL_law_1628 : (decode cL_law 1628 = .ok (.aload_n 2, 1)) ∧ (decode cL_law 1629 = .ok (.aload_n 0, 1)) ∧ (decode cL_law 1630 = .ok (.iload 4, 2)) ∧ (decode cL_law 1632 = .ok (.iconst 1, 1)) ∧ (decode cL_law 1633 = .ok (.iadd, 1)) ∧ (decode cL_law 1634 = .ok (.iaload, 1)) := by decide +kernel
theorem dL_law_1628 : decode cL_law 1628 = .ok (.aload_n 2, 1) := gdL_law_1628.1
theorem dL_law_1629 : decode cL_law 1629 = .ok (.aload_n 0, 1) := gdL_law_1628.2.1
theorem dL_law_1630 : decode cL_law 1630 = .ok (.iload 4, 2) := gdL_law_1628.2.2.1
theorem dL_law_1632 : decode cL_law 1632 = .ok (.iconst 1, 1) := gdL_law_1628.2.2.2.1
theorem dL_law_1633 : decode cL_law 1633 = .ok (.iadd, 1) := gdL_law_1628.2.2.2.2.1
theorem dL_law_1634 : decode cL_law 1634 = .ok (.iaload, 1) := gdL_law_1628.2.2.2.2.2
theorem gdL_law_1635 : (decode cL_law 1635 = .ok (.aload_n 0, 1)) ∧ (decode cL_law 1636 = .ok (.iload 4, 2)) ∧ (decode cL_law 1638 = .ok (.iconst 2, 1)) ∧ (decode cL_law 1639 = .ok (.iadd, 1)) ∧ (decode cL_law 1640 = .ok (.iaload, 1)) ∧ (decode cL_law 1641 = .ok (.invokevirtual 246, 3)) := by decide +kernel
theorem dL_law_1635 : decode cL_law 1635 = .ok (.aload_n 0, 1) := gdL_law_1635.1
theorem dL_law_1636 : decode cL_law 1636 = .ok (.iload 4, 2) := gdL_law_1635.2.1
theorem dL_law_1638 : decode cL_law 1638 = .ok (.iconst 2, 1) := gdL_law_1635.2.2.1
theorem dL_law_1639 : decode cL_law 1639 = .ok (.iadd, 1) := gdL_law_1635.2.2.2.1
theorem dL_law_1640 : decode cL_law 1640 = .ok (.iaload, 1) := gdL_law_1635.2.2.2.2.1
theorem dL_law_1641 : decode cL_law 1641 = .ok (.invokevirtual 246, 3) := gdL_law_1635.2.2.2.2.2
theorem gdL_law_1644 : (decode cL_law 1644 = .ok (.istore 6, 2)) ∧ (decode cL_law 1646 = .ok (.goto 438, 3)) ∧ (decode cL_law 1649 = .ok (.aload_n 1, 1)) ∧ (decode cL_law 1650 = .ok (.aload_n 0, 1)) ∧ (decode cL_law 1651 = .ok (.iload 4, 2)) ∧ (decode cL_law 1653 = .ok (.iconst 1, 1)) := by decide +kernel
theorem dL_law_1644 : decode cL_law 1644 = .ok (.istore 6, 2) := gdL_law_1644.1
theorem dL_law_1646 : decode cL_law 1646 = .ok (.goto 438, 3) := gdL_law_1644.2.1
theorem dL_law_1649 : decode cL_law 1649 = .ok (.aload_n 1, 1) := gdL_law_1644.2.2.1
theorem dL_law_1650 : decode cL_law 1650 = .ok (.aload_n 0, 1) := gdL_law_1644.2.2.2.1
theorem dL_law_1651 : decode cL_law 1651 = .ok (.iload 4, 2) := gdL_law_1644.2.2.2.2.1
theorem dL_law_1653 : decode cL_law 1653 = .ok (.iconst 1, 1) := gdL_law_1644.2.2.2.2.2
theorem gdL_law_1654 : (decode cL_law 1654 = .ok (.iadd, 1)) ∧ (decode cL_law 1655 = .ok (.iaload, 1)) ∧ (decode cL_law 1656 = .ok (.aload_n 0, 1)) ∧ (decode cL_law 1657 = .ok (.iload 4, 2)) ∧ (decode cL_law 1659 = .ok (.iconst 2, 1)) ∧ (decode cL_law 1660 = .ok (.iadd, 1)) := by decide +kernel
theorem dL_law_1654 : decode cL_law 1654 = .ok (.iadd, 1) := gdL_law_1654.1
theorem dL_law_1655 : decode cL_law 1655 = .ok (.iaload, 1) := gdL_law_1654.2.1
theorem dL_law_1656 : decode cL_law 1656 = .ok (.aload_n 0, 1) := gdL_law_1654.2.2.1
theorem dL_law_1657 : decode cL_law 1657 = .ok (.iload 4, 2) := gdL_law_1654.2.2.2.1
theorem dL_law_1659 : decode cL_law 1659 = .ok (.iconst 2, 1) := gdL_law_1654.2.2.2.2.1
theorem dL_law_1660 : decode cL_law 1660 = .ok (.iadd, 1) := gdL_law_1654.2.2.2.2.2
theorem gdL_law_1661 : (decode cL_law 1661 = .ok (.iaload, 1)) ∧ (decode cL_law 1662 = .ok (.aload_n 3, 1)) ∧ (decode cL_law 1663 = .ok (.invokestatic 247, 3)) ∧ (decode cL_law 1666 = .ok (.istore 5, 2)) ∧ (decode cL_law 1668 = .ok (.aload_n 2, 1)) ∧ (decode cL_law 1669 = .ok (.aload_n 0, 1)) := by decide +kernel
theorem dL_law_1661 : decode cL_law 1661 = .ok (.iaload, 1) := gdL_law_1661.1
theorem dL_law_1662 : decode cL_law 1662 = .ok (.aload_n 3, 1) := gdL_law_1661.2.1
theorem dL_law_1663 : decode cL_law 1663 = .ok (.invokestatic 247, 3) := gdL_law_1661.2.2.1
theorem dL_law_1666 : decode cL_law 1666 = .ok (.istore 5, 2) := gdL_law_1661.2.2.2.1
theorem dL_law_1668 : decode cL_law 1668 = .ok (.aload_n 2, 1) := gdL_law_1661.2.2.2.2.1
theorem dL_law_1669 : decode cL_law 1669 = .ok (.aload_n 0, 1) := gdL_law_1661.2.2.2.2.2
theorem gdL_law_1670 : (decode cL_law 1670 = .ok (.iload 4, 2)) ∧ (decode cL_law 1672 = .ok (.iconst 1, 1)) ∧ (decode cL_law 1673 = .ok (.iadd, 1)) ∧ (decode cL_law 1674 = .ok (.iaload, 1)) ∧ (decode cL_law 1675 = .ok (.aload_n 0, 1)) ∧ (decode cL_law 1676 = .ok (.iload 4, 2)) := by decide +kernel
theorem dL_law_1670 : decode cL_law 1670 = .ok (.iload 4, 2) := gdL_law_1670.1
theorem dL_law_1672 : decode cL_law 1672 = .ok (.iconst 1, 1) := gdL_law_1670.2.1
theorem dL_law_1673 : decode cL_law 1673 = .ok (.iadd, 1) := gdL_law_1670.2.2.1
theorem dL_law_1674 : decode cL_law 1674 = .ok (.iaload, 1) := gdL_law_1670.2.2.2.1
theorem dL_law_1675 : decode cL_law 1675 = .ok (.aload_n 0, 1) := gdL_law_1670.2.2.2.2.1
theorem dL_law_1676 : decode cL_law 1676 = .ok (.iload 4, 2) := gdL_law_1670.2.2.2.2.2
theorem gdL_law_1678 : (decode cL_law 1678 = .ok (.iconst 2, 1)) ∧ (decode cL_law 1679 = .ok (.iadd, 1)) ∧ (decode cL_law 1680 = .ok (.iaload, 1)) ∧ (decode cL_law 1681 = .ok (.invokevirtual 249, 3)) ∧ (decode cL_law 1684 = .ok (.istore 6, 2)) ∧ (decode cL_law 1686 = .ok (.goto 398, 3)) := by decide +kernel
theorem dL_law_1678 : decode cL_law 1678 = .ok (.iconst 2, 1) := gdL_law_1678.1
theorem dL_law_1679 : decode cL_law 1679 = .ok (.iadd, 1) := gdL_law_1678.2.1
theorem dL_law_1680 : decode cL_law 1680 = .ok (.iaload, 1) := gdL_law_1678.2.2.1
theorem dL_law_1681 : decode cL_law 1681 = .ok (.invokevirtual 249, 3) := gdL_law_1678.2.2.2.1
theorem dL_law_1684 : decode cL_law 1684 = .ok (.istore 6, 2) := gdL_law_1678.2.2.2.2.1
theorem dL_law_1686 : decode cL_law 1686 = .ok (.goto 398, 3) := gdL_law_1678.2.2.2.2.2
theorem gdL_law_1689 : (decode cL_law 1689 = .ok (.aload_n 1, 1)) ∧ (decode cL_law 1690 = .ok (.aload_n 0, 1)) ∧ (decode cL_law 1691 = .ok (.iload 4, 2)) ∧ (decode cL_law 1693 = .ok (.iconst 1, 1)) ∧ (decode cL_law 1694 = .ok (.iadd, 1)) ∧ (decode cL_law 1695 = .ok (.iaload, 1)) := by decide +kernel
theorem dL_law_1689 : decode cL_law 1689 = .ok (.aload_n 1, 1) := gdL_law_1689.1
theorem dL_law_1690 : decode cL_law 1690 = .ok (.aload_n 0, 1) := gdL_law_1689.2.1
theorem dL_law_1691 : decode cL_law 1691 = .ok (.iload 4, 2) := gdL_law_1689.2.2.1
theorem dL_law_1693 : decode cL_law 1693 = .ok (.iconst 1, 1) := gdL_law_1689.2.2.2.1
theorem dL_law_1694 : decode cL_law 1694 = .ok (.iadd, 1) := gdL_law_1689.2.2.2.2.1
theorem dL_law_1695 : decode cL_law 1695 = .ok (.iaload, 1) := gdL_law_1689.2.2.2.2.2
theorem gdL_law_1696 : (decode cL_law 1696 = .ok (.aload_n 3, 1)) ∧ (decode cL_law 1697 = .ok (.invokestatic 250, 3)) ∧ (decode cL_law 1700 = .ok (.istore 5, 2)) ∧ (decode cL_law 1702 = .ok (.aload_n 2, 1)) ∧ (decode cL_law 1703 = .ok (.aload_n 0, 1)) ∧ (decode cL_law 1704 = .ok (.iload 4, 2)) := by decide +kernel
theorem dL_law_1696 : decode cL_law 1696 = .ok (.aload_n 3, 1) := gdL_law_1696.1
theorem dL_law_1697 : decode cL_law 1697 = .ok (.invokestatic 250, 3) := gdL_law_1696.2.1
theorem dL_law_1700 : decode cL_law 1700 = .ok (.istore 5, 2) := gdL_law_1696.2.2.1
theorem dL_law_1702 : decode cL_law 1702 = .ok (.aload_n 2, 1) := gdL_law_1696.2.2.2.1
theorem dL_law_1703 : decode cL_law 1703 = .ok (.aload_n 0, 1) := gdL_law_1696.2.2.2.2.1
theorem dL_law_1704 : decode cL_law 1704 = .ok (.iload 4, 2) := gdL_law_1696.2.2.2.2.2
theorem gdL_law_1706 : (decode cL_law 1706 = .ok (.iconst 1, 1)) ∧ (decode cL_law 1707 = .ok (.iadd, 1)) ∧ (decode cL_law 1708 = .ok (.iaload, 1)) ∧ (decode cL_law 1709 = .ok (.invokevirtual 252, 3)) ∧ (decode cL_law 1712 = .ok (.istore 6, 2)) ∧ (decode cL_law 1714 = .ok (.goto 370, 3)) := by decide +kernel
theorem dL_law_1706 : decode cL_law 1706 = .ok (.iconst 1, 1) := gdL_law_1706.1
theorem dL_law_1707 : decode cL_law 1707 = .ok (.iadd, 1) := gdL_law_1706.2.1
theorem dL_law_1708 : decode cL_law 1708 = .ok (.iaload, 1) := gdL_law_1706.2.2.1
theorem dL_law_1709 : decode cL_law 1709 = .ok (.invokevirtual 252, 3) := gdL_law_1706.2.2.2.1
theorem dL_law_1712 : decode cL_law 1712 = .ok (.istore 6, 2) := gdL_law_1706.2.2.2.2.1
theorem dL_law_1714 : decode cL_law 1714 = .ok (.goto 370, 3) := gdL_law_1706.2.2.2.2.2
theorem gdL_law_1717 : (decode cL_law 1717 = .ok (.aload_n 1, 1)) ∧ (decode cL_law 1718 = .ok (.aload_n 0, 1)) ∧ (decode cL_law 1719 = .ok (.iload 4, 2)) ∧ (decode cL_law 1721 = .ok (.iconst 1, 1)) ∧ (decode cL_law 1722 = .ok (.iadd, 1)) ∧ (decode cL_law 1723 = .ok (.iaload, 1)) := by decide +kernel
theorem dL_law_1717 : decode cL_law 1717 = .ok (.aload_n 1, 1) := gdL_law_1717.1
theorem dL_law_1718 : decode cL_law 1718 = .ok (.aload_n 0, 1) := gdL_law_1717.2.1
theorem dL_law_1719 : decode cL_law 1719 = .ok (.iload 4, 2) := gdL_law_1717.2.2.1
theorem dL_law_1721 : decode cL_law 1721 = .ok (.iconst 1, 1) := gdL_law_1717.2.2.2.1
theorem dL_law_1722 : decode cL_law 1722 = .ok (.iadd, 1) := gdL_law_1717.2.2.2.2.1
theorem dL_law_1723 : decode cL_law 1723 = .ok (.iaload, 1) := gdL_law_1717.2.2.2.2.2
theorem gdL_law_1724 : (decode cL_law 1724 = .ok (.aload_n 3, 1)) ∧ (decode cL_law 1725 = .ok (.invokestatic 253, 3)) ∧ (decode cL_law 1728 = .ok (.istore 5, 2)) ∧ (decode cL_law 1730 = .ok (.aload_n 2, 1)) ∧ (decode cL_law 1731 = .ok (.aload_n 0, 1)) ∧ (decode cL_law 1732 = .ok (.iload 4, 2)) := by decide +kernel
theorem dL_law_1724 : decode cL_law 1724 = .ok (.aload_n 3, 1) := gdL_law_1724.1
theorem dL_law_1725 : decode cL_law 1725 = .ok (.invokestatic 253, 3) := gdL_law_1724.2.1
theorem dL_law_1728 : decode cL_law 1728 = .ok (.istore 5, 2) := gdL_law_1724.2.2.1
theorem dL_law_1730 : decode cL_law 1730 = .ok (.aload_n 2, 1) := gdL_law_1724.2.2.2.1
theorem dL_law_1731 : decode cL_law 1731 = .ok (.aload_n 0, 1) := gdL_law_1724.2.2.2.2.1
theorem dL_law_1732 : decode cL_law 1732 = .ok (.iload 4, 2) := gdL_law_1724.2.2.2.2.2
theorem gdL_law_1734 : (decode cL_law 1734 = .ok (.iconst 1, 1)) ∧ (decode cL_law 1735 = .ok (.iadd, 1)) ∧ (decode cL_law 1736 = .ok (.iaload, 1)) ∧ (decode cL_law 1737 = .ok (.invokevirtual 255, 3)) ∧ (decode cL_law 1740 = .ok (.istore 6, 2)) ∧ (decode cL_law 1742 = .ok (.goto 342, 3)) := by decide +kernel
theorem dL_law_1734 : decode cL_law 1734 = .ok (.iconst 1, 1) := gdL_law_1734.1
theorem dL_law_1735 : decode cL_law 1735 = .ok (.iadd, 1) := gdL_law_1734.2.1
theorem dL_law_1736 : decode cL_law 1736 = .ok (.iaload, 1) := gdL_law_1734.2.2.1
theorem dL_law_1737 : decode cL_law 1737 = .ok (.invokevirtual 255, 3) := gdL_law_1734.2.2.2.1
theorem dL_law_1740 : decode cL_law 1740 = .ok (.istore 6, 2) := gdL_law_1734.2.2.2.2.1
theorem dL_law_1742 : decode cL_law 1742 = .ok (.goto 342, 3) := gdL_law_1734.2.2.2.2.2
theorem gdL_law_1745 : (decode cL_law 1745 = .ok (.aload_n 1, 1)) ∧ (decode cL_law 1746 = .ok (.aload_n 0, 1)) ∧ (decode cL_law 1747 = .ok (.iload 4, 2)) ∧ (decode cL_law 1749 = .ok (.iconst 1, 1)) ∧ (decode cL_law 1750 = .ok (.iadd, 1)) ∧ (decode cL_law 1751 = .ok (.iaload, 1)) := by decide +kernel
theorem dL_law_1745 : decode cL_law 1745 = .ok (.aload_n 1, 1) := gdL_law_1745.1
theorem dL_law_1746 : decode cL_law 1746 = .ok (.aload_n 0, 1) := gdL_law_1745.2.1
theorem dL_law_1747 : decode cL_law 1747 = .ok (.iload 4, 2) := gdL_law_1745.2.2.1
theorem dL_law_1749 : decode cL_law 1749 = .ok (.iconst 1, 1) := gdL_law_1745.2.2.2.1
theorem dL_law_1750 : decode cL_law 1750 = .ok (.iadd, 1) := gdL_law_1745.2.2.2.2.1
theorem dL_law_1751 : decode cL_law 1751 = .ok (.iaload, 1) := gdL_law_1745.2.2.2.2.2
theorem gdL_law_1752 : (decode cL_law 1752 = .ok (.aload_n 3, 1)) ∧ (decode cL_law 1753 = .ok (.invokestatic 256, 3)) ∧ (decode cL_law 1756 = .ok (.istore 5, 2)) ∧ (decode cL_law 1758 = .ok (.aload_n 2, 1)) ∧ (decode cL_law 1759 = .ok (.aload_n 0, 1)) ∧ (decode cL_law 1760 = .ok (.iload 4, 2)) := by decide +kernel
theorem dL_law_1752 : decode cL_law 1752 = .ok (.aload_n 3, 1) := gdL_law_1752.1
theorem dL_law_1753 : decode cL_law 1753 = .ok (.invokestatic 256, 3) := gdL_law_1752.2.1
theorem dL_law_1756 : decode cL_law 1756 = .ok (.istore 5, 2) := gdL_law_1752.2.2.1
theorem dL_law_1758 : decode cL_law 1758 = .ok (.aload_n 2, 1) := gdL_law_1752.2.2.2.1
theorem dL_law_1759 : decode cL_law 1759 = .ok (.aload_n 0, 1) := gdL_law_1752.2.2.2.2.1
theorem dL_law_1760 : decode cL_law 1760 = .ok (.iload 4, 2) := gdL_law_1752.2.2.2.2.2
theorem gdL_law_1762 : (decode cL_law 1762 = .ok (.iconst 1, 1)) ∧ (decode cL_law 1763 = .ok (.iadd, 1)) ∧ (decode cL_law 1764 = .ok (.iaload, 1)) ∧ (decode cL_law 1765 = .ok (.invokevirtual 258, 3)) ∧ (decode cL_law 1768 = .ok (.istore 6, 2)) ∧ (decode cL_law 1770 = .ok (.goto 314, 3)) := by decide +kernel
theorem dL_law_1762 : decode cL_law 1762 = .ok (.iconst 1, 1) := gdL_law_1762.1
theorem dL_law_1763 : decode cL_law 1763 = .ok (.iadd, 1) := gdL_law_1762.2.1
theorem dL_law_1764 : decode cL_law 1764 = .ok (.iaload, 1) := gdL_law_1762.2.2.1
theorem dL_law_1765 : decode cL_law 1765 = .ok (.invokevirtual 258, 3) := gdL_law_1762.2.2.2.1
theorem dL_law_1768 : decode cL_law 1768 = .ok (.istore 6, 2) := gdL_law_1762.2.2.2.2.1
theorem dL_law_1770 : decode cL_law 1770 = .ok (.goto 314, 3) := gdL_law_1762.2.2.2.2.2
theorem gdL_law_1773 : (decode cL_law 1773 = .ok (.aload_n 1, 1)) ∧ (decode cL_law 1774 = .ok (.aload_n 0, 1)) ∧ (decode cL_law 1775 = .ok (.iload 4, 2)) ∧ (decode cL_law 1777 = .ok (.iconst 1, 1)) ∧ (decode cL_law 1778 = .ok (.iadd, 1)) ∧ (decode cL_law 1779 = .ok (.iaload, 1)) := by decide +kernel
theorem dL_law_1773 : decode cL_law 1773 = .ok (.aload_n 1, 1) := gdL_law_1773.1
theorem dL_law_1774 : decode cL_law 1774 = .ok (.aload_n 0, 1) := gdL_law_1773.2.1
theorem dL_law_1775 : decode cL_law 1775 = .ok (.iload 4, 2) := gdL_law_1773.2.2.1
theorem dL_law_1777 : decode cL_law 1777 = .ok (.iconst 1, 1) := gdL_law_1773.2.2.2.1
theorem dL_law_1778 : decode cL_law 1778 = .ok (.iadd, 1) := gdL_law_1773.2.2.2.2.1
theorem dL_law_1779 : decode cL_law 1779 = .ok (.iaload, 1) := gdL_law_1773.2.2.2.2.2
theorem gdL_law_1780 : (decode cL_law 1780 = .ok (.aload_n 3, 1)) ∧ (decode cL_law 1781 = .ok (.invokestatic 259, 3)) ∧ (decode cL_law 1784 = .ok (.istore 5, 2)) ∧ (decode cL_law 1786 = .ok (.aload_n 2, 1)) ∧ (decode cL_law 1787 = .ok (.aload_n 0, 1)) ∧ (decode cL_law 1788 = .ok (.iload 4, 2)) := by decide +kernel
theorem dL_law_1780 : decode cL_law 1780 = .ok (.aload_n 3, 1) := gdL_law_1780.1
theorem dL_law_1781 : decode cL_law 1781 = .ok (.invokestatic 259, 3) := gdL_law_1780.2.1
theorem dL_law_1784 : decode cL_law 1784 = .ok (.istore 5, 2) := gdL_law_1780.2.2.1
theorem dL_law_1786 : decode cL_law 1786 = .ok (.aload_n 2, 1) := gdL_law_1780.2.2.2.1
theorem dL_law_1787 : decode cL_law 1787 = .ok (.aload_n 0, 1) := gdL_law_1780.2.2.2.2.1
theorem dL_law_1788 : decode cL_law 1788 = .ok (.iload 4, 2) := gdL_law_1780.2.2.2.2.2
theorem gdL_law_1790 : (decode cL_law 1790 = .ok (.iconst 1, 1)) ∧ (decode cL_law 1791 = .ok (.iadd, 1)) ∧ (decode cL_law 1792 = .ok (.iaload, 1)) ∧ (decode cL_law 1793 = .ok (.invokevirtual 261, 3)) ∧ (decode cL_law 1796 = .ok (.istore 6, 2)) ∧ (decode cL_law 1798 = .ok (.goto 286, 3)) := by decide +kernel
theorem dL_law_1790 : decode cL_law 1790 = .ok (.iconst 1, 1) := gdL_law_1790.1
theorem dL_law_1791 : decode cL_law 1791 = .ok (.iadd, 1) := gdL_law_1790.2.1
theorem dL_law_1792 : decode cL_law 1792 = .ok (.iaload, 1) := gdL_law_1790.2.2.1
theorem dL_law_1793 : decode cL_law 1793 = .ok (.invokevirtual 261, 3) := gdL_law_1790.2.2.2.1
theorem dL_law_1796 : decode cL_law 1796 = .ok (.istore 6, 2) := gdL_law_1790.2.2.2.2.1
theorem dL_law_1798 : decode cL_law 1798 = .ok (.goto 286, 3) := gdL_law_1790.2.2.2.2.2
theorem gdL_law_1801 : (decode cL_law 1801 = .ok (.aload_n 1, 1)) ∧ (decode cL_law 1802 = .ok (.aload_n 0, 1)) ∧ (decode cL_law 1803 = .ok (.iload 4, 2)) ∧ (decode cL_law 1805 = .ok (.iconst 1, 1)) ∧ (decode cL_law 1806 = .ok (.iadd, 1)) ∧ (decode cL_law 1807 = .ok (.iaload, 1)) := by decide +kernel
theorem dL_law_1801 : decode cL_law 1801 = .ok (.aload_n 1, 1) := gdL_law_1801.1
theorem dL_law_1802 : decode cL_law 1802 = .ok (.aload_n 0, 1) := gdL_law_1801.2.1
theorem dL_law_1803 : decode cL_law 1803 = .ok (.iload 4, 2) := gdL_law_1801.2.2.1
theorem dL_law_1805 : decode cL_law 1805 = .ok (.iconst 1, 1) := gdL_law_1801.2.2.2.1
theorem dL_law_1806 : decode cL_law 1806 = .ok (.iadd, 1) := gdL_law_1801.2.2.2.2.1
theorem dL_law_1807 : decode cL_law 1807 = .ok (.iaload, 1) := gdL_law_1801.2.2.2.2.2
theorem gdL_law_1808 : (decode cL_law 1808 = .ok (.aload_n 3, 1)) ∧ (decode cL_law 1809 = .ok (.invokestatic 262, 3)) ∧ (decode cL_law 1812 = .ok (.istore 5, 2)) ∧ (decode cL_law 1814 = .ok (.aload_n 2, 1)) ∧ (decode cL_law 1815 = .ok (.aload_n 0, 1)) ∧ (decode cL_law 1816 = .ok (.iload 4, 2)) := by decide +kernel
theorem dL_law_1808 : decode cL_law 1808 = .ok (.aload_n 3, 1) := gdL_law_1808.1
theorem dL_law_1809 : decode cL_law 1809 = .ok (.invokestatic 262, 3) := gdL_law_1808.2.1
theorem dL_law_1812 : decode cL_law 1812 = .ok (.istore 5, 2) := gdL_law_1808.2.2.1
theorem dL_law_1814 : decode cL_law 1814 = .ok (.aload_n 2, 1) := gdL_law_1808.2.2.2.1
theorem dL_law_1815 : decode cL_law 1815 = .ok (.aload_n 0, 1) := gdL_law_1808.2.2.2.2.1
theorem dL_law_1816 : decode cL_law 1816 = .ok (.iload 4, 2) := gdL_law_1808.2.2.2.2.2
theorem gdL_law_1818 : (decode cL_law 1818 = .ok (.iconst 1, 1)) ∧ (decode cL_law 1819 = .ok (.iadd, 1)) ∧ (decode cL_law 1820 = .ok (.iaload, 1)) ∧ (decode cL_law 1821 = .ok (.invokevirtual 264, 3)) ∧ (decode cL_law 1824 = .ok (.istore 6, 2)) ∧ (decode cL_law 1826 = .ok (.goto 258, 3)) := by decide +kernel
theorem dL_law_1818 : decode cL_law 1818 = .ok (.iconst 1, 1) := gdL_law_1818.1
theorem dL_law_1819 : decode cL_law 1819 = .ok (.iadd, 1) := gdL_law_1818.2.1
theorem dL_law_1820 : decode cL_law 1820 = .ok (.iaload, 1) := gdL_law_1818.2.2.1
theorem dL_law_1821 : decode cL_law 1821 = .ok (.invokevirtual 264, 3) := gdL_law_1818.2.2.2.1
theorem dL_law_1824 : decode cL_law 1824 = .ok (.istore 6, 2) := gdL_law_1818.2.2.2.2.1
theorem dL_law_1826 : decode cL_law 1826 = .ok (.goto 258, 3) := gdL_law_1818.2.2.2.2.2
theorem gdL_law_1829 : (decode cL_law 1829 = .ok (.aload_n 1, 1)) ∧ (decode cL_law 1830 = .ok (.aload_n 0, 1)) ∧ (decode cL_law 1831 = .ok (.iload 4, 2)) ∧ (decode cL_law 1833 = .ok (.iconst 1, 1)) ∧ (decode cL_law 1834 = .ok (.iadd, 1)) ∧ (decode cL_law 1835 = .ok (.iaload, 1)) := by decide +kernel
theorem dL_law_1829 : decode cL_law 1829 = .ok (.aload_n 1, 1) := gdL_law_1829.1
theorem dL_law_1830 : decode cL_law 1830 = .ok (.aload_n 0, 1) := gdL_law_1829.2.1
theorem dL_law_1831 : decode cL_law 1831 = .ok (.iload 4, 2) := gdL_law_1829.2.2.1
theorem dL_law_1833 : decode cL_law 1833 = .ok (.iconst 1, 1) := gdL_law_1829.2.2.2.1
theorem dL_law_1834 : decode cL_law 1834 = .ok (.iadd, 1) := gdL_law_1829.2.2.2.2.1
theorem dL_law_1835 : decode cL_law 1835 = .ok (.iaload, 1) := gdL_law_1829.2.2.2.2.2
theorem gdL_law_1836 : (decode cL_law 1836 = .ok (.aload_n 0, 1)) ∧ (decode cL_law 1837 = .ok (.iload 4, 2)) ∧ (decode cL_law 1839 = .ok (.iconst 2, 1)) ∧ (decode cL_law 1840 = .ok (.iadd, 1)) ∧ (decode cL_law 1841 = .ok (.iaload, 1)) ∧ (decode cL_law 1842 = .ok (.aload_n 3, 1)) := by decide +kernel
theorem dL_law_1836 : decode cL_law 1836 = .ok (.aload_n 0, 1) := gdL_law_1836.1
theorem dL_law_1837 : decode cL_law 1837 = .ok (.iload 4, 2) := gdL_law_1836.2.1
theorem dL_law_1839 : decode cL_law 1839 = .ok (.iconst 2, 1) := gdL_law_1836.2.2.1
theorem dL_law_1840 : decode cL_law 1840 = .ok (.iadd, 1) := gdL_law_1836.2.2.2.1
theorem dL_law_1841 : decode cL_law 1841 = .ok (.iaload, 1) := gdL_law_1836.2.2.2.2.1
theorem dL_law_1842 : decode cL_law 1842 = .ok (.aload_n 3, 1) := gdL_law_1836.2.2.2.2.2
theorem gdL_law_1843 : (decode cL_law 1843 = .ok (.invokestatic 265, 3)) ∧ (decode cL_law 1846 = .ok (.istore 5, 2)) ∧ (decode cL_law 1848 = .ok (.aload_n 2, 1)) ∧ (decode cL_law 1849 = .ok (.aload_n 0, 1)) ∧ (decode cL_law 1850 = .ok (.iload 4, 2)) ∧ (decode cL_law 1852 = .ok (.iconst 1, 1)) := by decide +kernel
theorem dL_law_1843 : decode cL_law 1843 = .ok (.invokestatic 265, 3) := gdL_law_1843.1
theorem dL_law_1846 : decode cL_law 1846 = .ok (.istore 5, 2) := gdL_law_1843.2.1
theorem dL_law_1848 : decode cL_law 1848 = .ok (.aload_n 2, 1) := gdL_law_1843.2.2.1
theorem dL_law_1849 : decode cL_law 1849 = .ok (.aload_n 0, 1) := gdL_law_1843.2.2.2.1
theorem dL_law_1850 : decode cL_law 1850 = .ok (.iload 4, 2) := gdL_law_1843.2.2.2.2.1
theorem dL_law_1852 : decode cL_law 1852 = .ok (.iconst 1, 1) := gdL_law_1843.2.2.2.2.2
theorem gdL_law_1853 : (decode cL_law 1853 = .ok (.iadd, 1)) ∧ (decode cL_law 1854 = .ok (.iaload, 1)) ∧ (decode cL_law 1855 = .ok (.aload_n 0, 1)) ∧ (decode cL_law 1856 = .ok (.iload 4, 2)) ∧ (decode cL_law 1858 = .ok (.iconst 2, 1)) ∧ (decode cL_law 1859 = .ok (.iadd, 1)) := by decide +kernel
theorem dL_law_1853 : decode cL_law 1853 = .ok (.iadd, 1) := gdL_law_1853.1
theorem dL_law_1854 : decode cL_law 1854 = .ok (.iaload, 1) := gdL_law_1853.2.1
theorem dL_law_1855 : decode cL_law 1855 = .ok (.aload_n 0, 1) := gdL_law_1853.2.2.1
theorem dL_law_1856 : decode cL_law 1856 = .ok (.iload 4, 2) := gdL_law_1853.2.2.2.1
theorem dL_law_1858 : decode cL_law 1858 = .ok (.iconst 2, 1) := gdL_law_1853.2.2.2.2.1
theorem dL_law_1859 : decode cL_law 1859 = .ok (.iadd, 1) := gdL_law_1853.2.2.2.2.2
theorem gdL_law_1860 : (decode cL_law 1860 = .ok (.iaload, 1)) ∧ (decode cL_law 1861 = .ok (.invokevirtual 267, 3)) ∧ (decode cL_law 1864 = .ok (.istore 6, 2)) ∧ (decode cL_law 1866 = .ok (.goto 218, 3)) ∧ (decode cL_law 1869 = .ok (.aload_n 1, 1)) ∧ (decode cL_law 1870 = .ok (.aload_n 0, 1)) := by decide +kernel
theorem dL_law_1860 : decode cL_law 1860 = .ok (.iaload, 1) := gdL_law_1860.1
theorem dL_law_1861 : decode cL_law 1861 = .ok (.invokevirtual 267, 3) := gdL_law_1860.2.1
theorem dL_law_1864 : decode cL_law 1864 = .ok (.istore 6, 2) := gdL_law_1860.2.2.1
theorem dL_law_1866 : decode cL_law 1866 = .ok (.goto 218, 3) := gdL_law_1860.2.2.2.1
theorem dL_law_1869 : decode cL_law 1869 = .ok (.aload_n 1, 1) := gdL_law_1860.2.2.2.2.1
theorem dL_law_1870 : decode cL_law 1870 = .ok (.aload_n 0, 1) := gdL_law_1860.2.2.2.2.2
theorem gdL_law_1871 : (decode cL_law 1871 = .ok (.iload 4, 2)) ∧ (decode cL_law 1873 = .ok (.iconst 1, 1)) ∧ (decode cL_law 1874 = .ok (.iadd, 1)) ∧ (decode cL_law 1875 = .ok (.iaload, 1)) ∧ (decode cL_law 1876 = .ok (.aload_n 0, 1)) ∧ (decode cL_law 1877 = .ok (.iload 4, 2)) := by decide +kernel
theorem dL_law_1871 : decode cL_law 1871 = .ok (.iload 4, 2) := gdL_law_1871.1
theorem dL_law_1873 : decode cL_law 1873 = .ok (.iconst 1, 1) := gdL_law_1871.2.1
theorem dL_law_1874 : decode cL_law 1874 = .ok (.iadd, 1) := gdL_law_1871.2.2.1
theorem dL_law_1875 : decode cL_law 1875 = .ok (.iaload, 1) := gdL_law_1871.2.2.2.1
theorem dL_law_1876 : decode cL_law 1876 = .ok (.aload_n 0, 1) := gdL_law_1871.2.2.2.2.1
theorem dL_law_1877 : decode cL_law 1877 = .ok (.iload 4, 2) := gdL_law_1871.2.2.2.2.2
theorem gdL_law_1879 : (decode cL_law 1879 = .ok (.iconst 2, 1)) ∧ (decode cL_law 1880 = .ok (.iadd, 1)) ∧ (decode cL_law 1881 = .ok (.iaload, 1)) ∧ (decode cL_law 1882 = .ok (.aload_n 3, 1)) ∧ (decode cL_law 1883 = .ok (.invokestatic 268, 3)) ∧ (decode cL_law 1886 = .ok (.istore 5, 2)) := by decide +kernel
theorem dL_law_1879 : decode cL_law 1879 = .ok (.iconst 2, 1) := gdL_law_1879.1
theorem dL_law_1880 : decode cL_law 1880 = .ok (.iadd, 1) := gdL_law_1879.2.1
theorem dL_law_1881 : decode cL_law 1881 = .ok (.iaload, 1) := gdL_law_1879.2.2.1
theorem dL_law_1882 : decode cL_law 1882 = .ok (.aload_n 3, 1) := gdL_law_1879.2.2.2.1
theorem dL_law_1883 : decode cL_law 1883 = .ok (.invokestatic 268, 3) := gdL_law_1879.2.2.2.2.1
theorem dL_law_1886 : decode cL_law 1886 = .ok (.istore 5, 2) := gdL_law_1879.2.2.2.2.2
theorem gdL_law_1888 : (decode cL_law 1888 = .ok (.aload_n 2, 1)) ∧ (decode cL_law 1889 = .ok (.aload_n 0, 1)) ∧ (decode cL_law 1890 = .ok (.iload 4, 2)) ∧ (decode cL_law 1892 = .ok (.iconst 1, 1)) ∧ (decode cL_law 1893 = .ok (.iadd, 1)) ∧ (decode cL_law 1894 = .ok (.iaload, 1)) := by decide +kernel
theorem dL_law_1888 : decode cL_law 1888 = .ok (.aload_n 2, 1) := gdL_law_1888.1
theorem dL_law_1889 : decode cL_law 1889 = .ok (.aload_n 0, 1) := gdL_law_1888.2.1
theorem dL_law_1890 : decode cL_law 1890 = .ok (.iload 4, 2) := gdL_law_1888.2.2.1
theorem dL_law_1892 : decode cL_law 1892 = .ok (.iconst 1, 1) := gdL_law_1888.2.2.2.1
theorem dL_law_1893 : decode cL_law 1893 = .ok (.iadd, 1) := gdL_law_1888.2.2.2.2.1
theorem dL_law_1894 : decode cL_law 1894 = .ok (.iaload, 1) := gdL_law_1888.2.2.2.2.2
theorem gdL_law_1895 : (decode cL_law 1895 = .ok (.aload_n 0, 1)) ∧ (decode cL_law 1896 = .ok (.iload 4, 2)) ∧ (decode cL_law 1898 = .ok (.iconst 2, 1)) ∧ (decode cL_law 1899 = .ok (.iadd, 1)) ∧ (decode cL_law 1900 = .ok (.iaload, 1)) ∧ (decode cL_law 1901 = .ok (.invokevirtual 270, 3)) := by decide +kernel
theorem dL_law_1895 : decode cL_law 1895 = .ok (.aload_n 0, 1) := gdL_law_1895.1
theorem dL_law_1896 : decode cL_law 1896 = .ok (.iload 4, 2) := gdL_law_1895.2.1
theorem dL_law_1898 : decode cL_law 1898 = .ok (.iconst 2, 1) := gdL_law_1895.2.2.1
theorem dL_law_1899 : decode cL_law 1899 = .ok (.iadd, 1) := gdL_law_1895.2.2.2.1
theorem dL_law_1900 : decode cL_law 1900 = .ok (.iaload, 1) := gdL_law_1895.2.2.2.2.1
theorem dL_law_1901 : decode cL_law 1901 = .ok (.invokevirtual 270, 3) := gdL_law_1895.2.2.2.2.2
theorem gdL_law_1904 : (decode cL_law 1904 = .ok (.istore 6, 2)) ∧ (decode cL_law 1906 = .ok (.goto 178, 3)) ∧ (decode cL_law 1909 = .ok (.aload_n 1, 1)) ∧ (decode cL_law 1910 = .ok (.aload_n 0, 1)) ∧ (decode cL_law 1911 = .ok (.iload 4, 2)) ∧ (decode cL_law 1913 = .ok (.iconst 1, 1)) := by decide +kernel
theorem dL_law_1904 : decode cL_law 1904 = .ok (.istore 6, 2) := gdL_law_1904.1
theorem dL_law_1906 : decode cL_law 1906 = .ok (.goto 178, 3) := gdL_law_1904.2.1
theorem dL_law_1909 : decode cL_law 1909 = .ok (.aload_n 1, 1) := gdL_law_1904.2.2.1
theorem dL_law_1910 : decode cL_law 1910 = .ok (.aload_n 0, 1) := gdL_law_1904.2.2.2.1
theorem dL_law_1911 : decode cL_law 1911 = .ok (.iload 4, 2) := gdL_law_1904.2.2.2.2.1
theorem dL_law_1913 : decode cL_law 1913 = .ok (.iconst 1, 1) := gdL_law_1904.2.2.2.2.2
theorem gdL_law_1914 : (decode cL_law 1914 = .ok (.iadd, 1)) ∧ (decode cL_law 1915 = .ok (.iaload, 1)) ∧ (decode cL_law 1916 = .ok (.aload_n 3, 1)) ∧ (decode cL_law 1917 = .ok (.invokestatic 271, 3)) ∧ (decode cL_law 1920 = .ok (.istore 5, 2)) ∧ (decode cL_law 1922 = .ok (.aload_n 2, 1)) := by decide +kernel
theorem dL_law_1914 : decode cL_law 1914 = .ok (.iadd, 1) := gdL_law_1914.1
theorem dL_law_1915 : decode cL_law 1915 = .ok (.iaload, 1) := gdL_law_1914.2.1
theorem dL_law_1916 : decode cL_law 1916 = .ok (.aload_n 3, 1) := gdL_law_1914.2.2.1
theorem dL_law_1917 : decode cL_law 1917 = .ok (.invokestatic 271, 3) := gdL_law_1914.2.2.2.1
theorem dL_law_1920 : decode cL_law 1920 = .ok (.istore 5, 2) := gdL_law_1914.2.2.2.2.1
theorem dL_law_1922 : decode cL_law 1922 = .ok (.aload_n 2, 1) := gdL_law_1914.2.2.2.2.2
theorem gdL_law_1923 : (decode cL_law 1923 = .ok (.aload_n 0, 1)) ∧ (decode cL_law 1924 = .ok (.iload 4, 2)) ∧ (decode cL_law 1926 = .ok (.iconst 1, 1)) ∧ (decode cL_law 1927 = .ok (.iadd, 1)) ∧ (decode cL_law 1928 = .ok (.iaload, 1)) ∧ (decode cL_law 1929 = .ok (.invokevirtual 273, 3)) := by decide +kernel
theorem dL_law_1923 : decode cL_law 1923 = .ok (.aload_n 0, 1) := gdL_law_1923.1
theorem dL_law_1924 : decode cL_law 1924 = .ok (.iload 4, 2) := gdL_law_1923.2.1
theorem dL_law_1926 : decode cL_law 1926 = .ok (.iconst 1, 1) := gdL_law_1923.2.2.1
theorem dL_law_1927 : decode cL_law 1927 = .ok (.iadd, 1) := gdL_law_1923.2.2.2.1
theorem dL_law_1928 : decode cL_law 1928 = .ok (.iaload, 1) := gdL_law_1923.2.2.2.2.1
theorem dL_law_1929 : decode cL_law 1929 = .ok (.invokevirtual 273, 3) := gdL_law_1923.2.2.2.2.2
theorem gdL_law_1932 : (decode cL_law 1932 = .ok (.astore 6, 2)) ∧ (decode cL_law 1934 = .ok (.goto 150, 3)) ∧ (decode cL_law 1937 = .ok (.aload_n 1, 1)) ∧ (decode cL_law 1938 = .ok (.aload_n 0, 1)) ∧ (decode cL_law 1939 = .ok (.iload 4, 2)) ∧ (decode cL_law 1941 = .ok (.iconst 1, 1)) := by decide +kernel
theorem dL_law_1932 : decode cL_law 1932 = .ok (.astore 6, 2) := gdL_law_1932.1
theorem dL_law_1934 : decode cL_law 1934 = .ok (.goto 150, 3) := gdL_law_1932.2.1
theorem dL_law_1937 : decode cL_law 1937 = .ok (.aload_n 1, 1) := gdL_law_1932.2.2.1
theorem dL_law_1938 : decode cL_law 1938 = .ok (.aload_n 0, 1) := gdL_law_1932.2.2.2.1
theorem dL_law_1939 : decode cL_law 1939 = .ok (.iload 4, 2) := gdL_law_1932.2.2.2.2.1
theorem dL_law_1941 : decode cL_law 1941 = .ok (.iconst 1, 1) := gdL_law_1932.2.2.2.2.2
theorem gdL_law_1942 : (decode cL_law 1942 = .ok (.iadd, 1)) ∧ (decode cL_law 1943 = .ok (.iaload, 1)) ∧ (decode cL_law 1944 = .ok (.aload_n 0, 1)) ∧ (decode cL_law 1945 = .ok (.iload 4, 2)) ∧ (decode cL_law 1947 = .ok (.iconst 2, 1)) ∧ (decode cL_law 1948 = .ok (.iadd, 1)) := by decide +kernel
theorem dL_law_1942 : decode cL_law 1942 = .ok (.iadd, 1) := gdL_law_1942.1
theorem dL_law_1943 : decode cL_law 1943 = .ok (.iaload, 1) := gdL_law_1942.2.1
theorem dL_law_1944 : decode cL_law 1944 = .ok (.aload_n 0, 1) := gdL_law_1942.2.2.1
theorem dL_law_1945 : decode cL_law 1945 = .ok (.iload 4, 2) := gdL_law_1942.2.2.2.1
theorem dL_law_1947 : decode cL_law 1947 = .ok (.iconst 2, 1) := gdL_law_1942.2.2.2.2.1
theorem dL_law_1948 : decode cL_law 1948 = .ok (.iadd, 1) := gdL_law_1942.2.2.2.2.2
theorem gdL_law_1949 : (decode cL_law 1949 = .ok (.iaload, 1)) ∧ (decode cL_law 1950 = .ok (.aload_n 0, 1)) ∧ (decode cL_law 1951 = .ok (.iload 4, 2)) ∧ (decode cL_law 1953 = .ok (.iconst 3, 1)) ∧ (decode cL_law 1954 = .ok (.iadd, 1)) ∧ (decode cL_law 1955 = .ok (.iaload, 1)) := by decide +kernel
theorem dL_law_1949 : decode cL_law 1949 = .ok (.iaload, 1) := gdL_law_1949.1
theorem dL_law_1950 : decode cL_law 1950 = .ok (.aload_n 0, 1) := gdL_law_1949.2.1
theorem dL_law_1951 : decode cL_law 1951 = .ok (.iload 4, 2) := gdL_law_1949.2.2.1
theorem dL_law_1953 : decode cL_law 1953 = .ok (.iconst 3, 1) := gdL_law_1949.2.2.2.1
theorem dL_law_1954 : decode cL_law 1954 = .ok (.iadd, 1) := gdL_law_1949.2.2.2.2.1
theorem dL_law_1955 : decode cL_law 1955 = .ok (.iaload, 1) := gdL_law_1949.2.2.2.2.2
theorem gdL_law_1956 : (decode cL_law 1956 = .ok (.aload_n 3, 1)) ∧ (decode cL_law 1957 = .ok (.invokestatic 274, 3)) ∧ (decode cL_law 1960 = .ok (.istore 5, 2)) ∧ (decode cL_law 1962 = .ok (.aload_n 2, 1)) ∧ (decode cL_law 1963 = .ok (.aload_n 0, 1)) ∧ (decode cL_law 1964 = .ok (.iload 4, 2)) := by decide +kernel
theorem dL_law_1956 : decode cL_law 1956 = .ok (.aload_n 3, 1) := gdL_law_1956.1
theorem dL_law_1957 : decode cL_law 1957 = .ok (.invokestatic 274, 3) := gdL_law_1956.2.1
theorem dL_law_1960 : decode cL_law 1960 = .ok (.istore 5, 2) := gdL_law_1956.2.2.1
theorem dL_law_1962 : decode cL_law 1962 = .ok (.aload_n 2, 1) := gdL_law_1956.2.2.2.1
theorem dL_law_1963 : decode cL_law 1963 = .ok (.aload_n 0, 1) := gdL_law_1956.2.2.2.2.1
theorem dL_law_1964 : decode cL_law 1964 = .ok (.iload 4, 2) := gdL_law_1956.2.2.2.2.2
theorem gdL_law_1966 : (decode cL_law 1966 = .ok (.iconst 1, 1)) ∧ (decode cL_law 1967 = .ok (.iadd, 1)) ∧ (decode cL_law 1968 = .ok (.iaload, 1)) ∧ (decode cL_law 1969 = .ok (.aload_n 0, 1)) ∧ (decode cL_law 1970 = .ok (.iload 4, 2)) ∧ (decode cL_law 1972 = .ok (.iconst 2, 1)) := by decide +kernel
theorem dL_law_1966 : decode cL_law 1966 = .ok (.iconst 1, 1) := gdL_law_1966.1
theorem dL_law_1967 : decode cL_law 1967 = .ok (.iadd, 1) := gdL_law_1966.2.1
theorem dL_law_1968 : decode cL_law 1968 = .ok (.iaload, 1) := gdL_law_1966.2.2.1
theorem dL_law_1969 : decode cL_law 1969 = .ok (.aload_n 0, 1) := gdL_law_1966.2.2.2.1
theorem dL_law_1970 : decode cL_law 1970 = .ok (.iload 4, 2) := gdL_law_1966.2.2.2.2.1
theorem dL_law_1972 : decode cL_law 1972 = .ok (.iconst 2, 1) := gdL_law_1966.2.2.2.2.2
theorem gdL_law_1973 : (decode cL_law 1973 = .ok (.iadd, 1)) ∧ (decode cL_law 1974 = .ok (.iaload, 1)) ∧ (decode cL_law 1975 = .ok (.aload_n 0, 1)) ∧ (decode cL_law 1976 = .ok (.iload 4, 2)) ∧ (decode cL_law 1978 = .ok (.iconst 3, 1)) ∧ (decode cL_law 1979 = .ok (.iadd, 1)) := by decide +kernel
theorem dL_law_1973 : decode cL_law 1973 = .ok (.iadd, 1) := gdL_law_1973.1
theorem dL_law_1974 : decode cL_law 1974 = .ok (.iaload, 1) := gdL_law_1973.2.1
theorem dL_law_1975 : decode cL_law 1975 = .ok (.aload_n 0, 1) := gdL_law_1973.2.2.1
theorem dL_law_1976 : decode cL_law 1976 = .ok (.iload 4, 2) := gdL_law_1973.2.2.2.1
theorem dL_law_1978 : decode cL_law 1978 = .ok (.iconst 3, 1) := gdL_law_1973.2.2.2.2.1
theorem dL_law_1979 : decode cL_law 1979 = .ok (.iadd, 1) := gdL_law_1973.2.2.2.2.2
theorem gdL_law_1980 : (decode cL_law 1980 = .ok (.iaload, 1)) ∧ (decode cL_law 1981 = .ok (.invokevirtual 276, 3)) ∧ (decode cL_law 1984 = .ok (.istore 6, 2)) ∧ (decode cL_law 1986 = .ok (.goto 98, 3)) ∧ (decode cL_law 1989 = .ok (.aload_n 1, 1)) ∧ (decode cL_law 1990 = .ok (.invokevirtual 277, 3)) := by decide +kernel
theorem dL_law_1980 : decode cL_law 1980 = .ok (.iaload, 1) := gdL_law_1980.1
theorem dL_law_1981 : decode cL_law 1981 = .ok (.invokevirtual 276, 3) := gdL_law_1980.2.1
theorem dL_law_1984 : decode cL_law 1984 = .ok (.istore 6, 2) := gdL_law_1980.2.2.1
theorem dL_law_1986 : decode cL_law 1986 = .ok (.goto 98, 3) := gdL_law_1980.2.2.2.1
theorem dL_law_1989 : decode cL_law 1989 = .ok (.aload_n 1, 1) := gdL_law_1980.2.2.2.2.1
theorem dL_law_1990 : decode cL_law 1990 = .ok (.invokevirtual 277, 3) := gdL_law_1980.2.2.2.2.2
theorem gdL_law_1993 : (decode cL_law 1993 = .ok (.pop, 1)) ∧ (decode cL_law 1994 = .ok (.aload_n 2, 1)) ∧ (decode cL_law 1995 = .ok (.invokevirtual 281, 3)) ∧ (decode cL_law 1998 = .ok (.pop, 1)) ∧ (decode cL_law 1999 = .ok (.goto 85, 3)) ∧ (decode cL_law 2002 = .ok (.aload_n 1, 1)) := by decide +kernel
theorem dL_law_1993 : decode cL_law 1993 = .ok (.pop, 1) := gdL_law_1993.1
theorem dL_law_1994 : decode cL_law 1994 = .ok (.aload_n 2, 1) := gdL_law_1993.2.1
theorem dL_law_1995 : decode cL_law 1995 = .ok (.invokevirtual 281, 3) := gdL_law_1993.2.2.1
theorem dL_law_1998 : decode cL_law 1998 = .ok (.pop, 1) := gdL_law_1993.2.2.2.1
theorem dL_law_1999 : decode cL_law 1999 = .ok (.goto 85, 3) := gdL_law_1993.2.2.2.2.1
theorem dL_law_2002 : decode cL_law 2002 = .ok (.aload_n 1, 1) := gdL_law_1993.2.2.2.2.2
theorem dL_law_2003 : decode cL_law 2003 = .ok (.aload_n 0, 1) := by decide +kernel
