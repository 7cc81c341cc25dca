theorem dL_ruleWorth_22 : decode cL_ruleWorth 22 = .ok (.iconst 2, 1) := by decide +kernel
theorem dL_ruleWorth_23 : decode cL_ruleWorth 23 = .ok (.ireturn, 1) := by decide +kernel
theorem dL_ruleWorth_24 : decode cL_ruleWorth 24 = .ok (.iconst 0, 1) := by decide +kernel
theorem dL_ruleWorth_25 : decode cL_ruleWorth 25 = .ok (.ireturn, 1) := by decide +kernel
theorem dL_addPart_0 : decode cL_addPart 0 = .ok (.aload 4, 2) := by decide +kernel
theorem dL_addPart_2 : decode cL_addPart 2 = .ok (.aload_n 0, 1) := by decide +kernel
theorem dL_addPart_3 : decode cL_addPart 3 = .ok (.iload_n 1, 1) := by decide +kernel
theorem dL_addPart_4 : decode cL_addPart 4 = .ok (.iload_n 2, 1) := by decide +kernel
theorem dL_addPart_5 : decode cL_addPart 5 = .ok (.iload_n 3, 1) := by decide +kernel
theorem dL_addPart_6 : decode cL_addPart 6 = .ok (.invokevirtual 101, 3) := by decide +kernel
theorem dL_addPart_9 : decode cL_addPart 9 = .ok (.i2l, 1) := by decide +kernel
theorem dL_addPart_10 : decode cL_addPart 10 = .ok (.putfield 13, 3) := by decide +kernel
theorem dL_addPart_13 : decode cL_addPart 13 = .ok (.goto 11, 3) := by decide +kernel
theorem dL_addPart_16 : decode cL_addPart 16 = .ok (.astore 5, 2) := by decide +kernel
theorem dL_addPart_18 : decode cL_addPart 18 = .ok (.iconst 1, 1) := by decide +kernel
theorem dL_addPart_19 : decode cL_addPart 19 = .ok (.ireturn, 1) := by decide +kernel
theorem dL_addPart_20 : decode cL_addPart 20 = .ok (.astore 5, 2) := by decide +kernel
theorem dL_addPart_22 : decode cL_addPart 22 = .ok (.iconst 2, 1) := by decide +kernel
theorem dL_addPart_23 : decode cL_addPart 23 = .ok (.ireturn, 1) := by decide +kernel
theorem dL_addPart_24 : decode cL_addPart 24 = .ok (.iconst 0, 1) := by decide +kernel
theorem dL_addPart_25 : decode cL_addPart 25 = .ok (.ireturn, 1) := by decide +kernel
theorem dL_takePart_0 : decode cL_takePart 0 = .ok (.aload_n 3, 1) := by decide +kernel
theorem dL_takePart_1 : decode cL_takePart 1 = .ok (.aload_n 0, 1) := by decide +kernel
theorem dL_takePart_2 : decode cL_takePart 2 = .ok (.iload_n 1, 1) := by decide +kernel
theorem dL_takePart_3 : decode cL_takePart 3 = .ok (.iload_n 2, 1) := by decide +kernel
theorem dL_takePart_4 : decode cL_takePart 4 = .ok (.invokevirtual 104, 3) := by decide +kernel
theorem dL_takePart_7 : decode cL_takePart 7 = .ok (.i2l, 1) := by decide +kernel
theorem dL_takePart_8 : decode cL_takePart 8 = .ok (.putfield 13, 3) := by decide +kernel
theorem dL_takePart_11 : decode cL_takePart 11 = .ok (.goto 11, 3) := by decide +kernel
theorem dL_takePart_14 : decode cL_takePart 14 = .ok (.astore 4, 2) := by decide +kernel
theorem dL_takePart_16 : decode cL_takePart 16 = .ok (.iconst 1, 1) := by decide +kernel
theorem dL_takePart_17 : decode cL_takePart 17 = .ok (.ireturn, 1) := by decide +kernel
theorem dL_takePart_18 : decode cL_takePart 18 = .ok (.astore 4, 2) := by decide +kernel
theorem dL_takePart_20 : decode cL_takePart 20 = .ok (.iconst 2, 1) := by decide +kernel
theorem dL_takePart_21 : decode cL_takePart 21 = .ok (.ireturn, 1) := by decide +kernel
theorem dL_takePart_22 : decode cL_takePart 22 = .ok (.iconst 0, 1) := by decide +kernel
theorem dL_takePart_23 : decode cL_takePart 23 = .ok (.ireturn, 1) := by decide +kernel
theorem dL_layFirst_0 : decode cL_layFirst 0 = .ok (.aload_n 3, 1) := by decide +kernel
theorem dL_layFirst_1 : decode cL_layFirst 1 = .ok (.aload_n 0, 1) := by decide +kernel
theorem dL_layFirst_2 : decode cL_layFirst 2 = .ok (.iload_n 1, 1) := by decide +kernel
theorem dL_layFirst_3 : decode cL_layFirst 3 = .ok (.iload_n 2, 1) := by decide +kernel
theorem dL_layFirst_4 : decode cL_layFirst 4 = .ok (.invokevirtual 107, 3) := by decide +kernel
theorem dL_layFirst_7 : decode cL_layFirst 7 = .ok (.i2l, 1) := by decide +kernel
theorem dL_layFirst_8 : decode cL_layFirst 8 = .ok (.putfield 13, 3) := by decide +kernel
theorem dL_layFirst_11 : decode cL_layFirst 11 = .ok (.goto 11, 3) := by decide +kernel
theorem dL_layFirst_14 : decode cL_layFirst 14 = .ok (.astore 4, 2) := by decide +kernel
theorem dL_layFirst_16 : decode cL_layFirst 16 = .ok (.iconst 1, 1) := by decide +kernel
theorem dL_layFirst_17 : decode cL_layFirst 17 = .ok (.ireturn, 1) := by decide +kernel
theorem dL_layFirst_18 : decode cL_layFirst 18 = .ok (.astore 4, 2) := by decide +kernel
theorem dL_layFirst_20 : decode cL_layFirst 20 = .ok (.iconst 2, 1) := by decide +kernel
theorem dL_layFirst_21 : decode cL_layFirst 21 = .ok (.ireturn, 1) := by decide +kernel
theorem dL_layFirst_22 : decode cL_layFirst 22 = .ok (.iconst 0, 1) := by decide +kernel
theorem dL_layFirst_23 : decode cL_layFirst 23 = .ok (.ireturn, 1) := by decide +kernel
theorem dL_next_0 : decode cL_next 0 = .ok (.aload_n 2, 1) := by decide +kernel
theorem dL_next_1 : decode cL_next 1 = .ok (.aload_n 0, 1) := by decide +kernel
theorem dL_next_2 : decode cL_next 2 = .ok (.iload_n 1, 1) := by decide +kernel
theorem dL_next_3 : decode cL_next 3 = .ok (.invokevirtual 110, 3) := by decide +kernel
theorem dL_next_6 : decode cL_next 6 = .ok (.i2l, 1) := by decide +kernel
theorem dL_next_7 : decode cL_next 7 = .ok (.putfield 13, 3) := by decide +kernel
theorem dL_next_10 : decode cL_next 10 = .ok (.goto 6, 3) := by decide +kernel
theorem dL_next_13 : decode cL_next 13 = .ok (.astore_n 3, 1) := by decide +kernel
theorem dL_next_14 : decode cL_next 14 = .ok (.iconst 1, 1) := by decide +kernel
theorem dL_next_15 : decode cL_next 15 = .ok (.ireturn, 1) := by decide +kernel
theorem dL_next_16 : decode cL_next 16 = .ok (.iconst 0, 1) := by decide +kernel
theorem dL_next_17 : decode cL_next 17 = .ok (.ireturn, 1) := by decide +kernel
theorem dL_turn_0 : decode cL_turn 0 = .ok (.aload_n 2, 1) := by decide +kernel
theorem dL_turn_1 : decode cL_turn 1 = .ok (.aload_n 0, 1) := by decide +kernel
theorem dL_turn_2 : decode cL_turn 2 = .ok (.iload_n 1, 1) := by decide +kernel
theorem dL_turn_3 : decode cL_turn 3 = .ok (.invokevirtual 113, 3) := by decide +kernel
theorem dL_turn_6 : decode cL_turn 6 = .ok (.i2l, 1) := by decide +kernel
theorem dL_turn_7 : decode cL_turn 7 = .ok (.putfield 13, 3) := by decide +kernel
theorem dL_turn_10 : decode cL_turn 10 = .ok (.goto 6, 3) := by decide +kernel
theorem dL_turn_13 : decode cL_turn 13 = .ok (.astore_n 3, 1) := by decide +kernel
theorem dL_turn_14 : decode cL_turn 14 = .ok (.iconst 1, 1) := by decide +kernel
theorem dL_turn_15 : decode cL_turn 15 = .ok (.ireturn, 1) := by decide +kernel
theorem dL_turn_16 : decode cL_turn 16 = .ok (.iconst 0, 1) := by decide +kernel
theorem dL_turn_17 : decode cL_turn 17 = .ok (.ireturn, 1) := by decide +kernel
theorem dL_toUnlike_0 : decode cL_toUnlike 0 = .ok (.aload_n 2, 1) := by decide +kernel
theorem dL_toUnlike_1 : decode cL_toUnlike 1 = .ok (.aload_n 0, 1) := by decide +kernel
theorem dL_toUnlike_2 : decode cL_toUnlike 2 = .ok (.iload_n 1, 1) := by decide +kernel
theorem dL_toUnlike_3 : decode cL_toUnlike 3 = .ok (.invokevirtual 116, 3) := by decide +kernel
theorem dL_toUnlike_6 : decode cL_toUnlike 6 = .ok (.i2l, 1) := by decide +kernel
theorem dL_toUnlike_7 : decode cL_toUnlike 7 = .ok (.putfield 13, 3) := by decide +kernel
theorem dL_toUnlike_10 : decode cL_toUnlike 10 = .ok (.goto 6, 3) := by decide +kernel
theorem dL_toUnlike_13 : decode cL_toUnlike 13 = .ok (.astore_n 3, 1) := by decide +kernel
theorem dL_toUnlike_14 : decode cL_toUnlike 14 = .ok (.iconst 1, 1) := by decide +kernel
theorem dL_toUnlike_15 : decode cL_toUnlike 15 = .ok (.ireturn, 1) := by decide +kernel
theorem dL_toUnlike_16 : decode cL_toUnlike 16 = .ok (.iconst 0, 1) := by decide +kernel
theorem dL_toUnlike_17 : decode cL_toUnlike 17 = .ok (.ireturn, 1) := by decide +kernel
theorem dL_toOdd_0 : decode cL_toOdd 0 = .ok (.aload_n 2, 1) := by decide +kernel
theorem dL_toOdd_1 : decode cL_toOdd 1 = .ok (.aload_n 0, 1) := by decide +kernel
theorem dL_toOdd_2 : decode cL_toOdd 2 = .ok (.iload_n 1, 1) := by decide +kernel
theorem dL_toOdd_3 : decode cL_toOdd 3 = .ok (.invokevirtual 119, 3) := by decide +kernel
theorem dL_toOdd_6 : decode cL_toOdd 6 = .ok (.i2l, 1) := by decide +kernel
theorem dL_toOdd_7 : decode cL_toOdd 7 = .ok (.putfield 13, 3) := by decide +kernel
theorem dL_toOdd_10 : decode cL_toOdd 10 = .ok (.goto 6, 3) := by decide +kernel
theorem dL_toOdd_13 : decode cL_toOdd 13 = .ok (.astore_n 3, 1) := by decide +kernel
theorem dL_toOdd_14 : decode cL_toOdd 14 = .ok (.iconst 1, 1) := by decide +kernel
theorem dL_toOdd_15 : decode cL_toOdd 15 = .ok (.ireturn, 1) := by decide +kernel
theorem dL_toOdd_16 : decode cL_toOdd 16 = .ok (.iconst 0, 1) := by decide +kernel
theorem dL_toOdd_17 : decode cL_toOdd 17 = .ok (.ireturn, 1) := by decide +kernel
theorem dL_copyDesk_0 : decode cL_copyDesk 0 = .ok (.aload_n 2, 1) := by decide +kernel
theorem dL_copyDesk_1 : decode cL_copyDesk 1 = .ok (.aload_n 0, 1) := by decide +kernel
theorem dL_copyDesk_2 : decode cL_copyDesk 2 = .ok (.iload_n 1, 1) := by decide +kernel
theorem dL_copyDesk_3 : decode cL_copyDesk 3 = .ok (.invokevirtual 122, 3) := by decide +kernel
theorem dL_copyDesk_6 : decode cL_copyDesk 6 = .ok (.i2l, 1) := by decide +kernel
theorem dL_copyDesk_7 : decode cL_copyDesk 7 = .ok (.putfield 13, 3) := by decide +kernel
theorem dL_copyDesk_10 : decode cL_copyDesk 10 = .ok (.goto 6, 3) := by decide +kernel
theorem dL_copyDesk_13 : decode cL_copyDesk 13 = .ok (.astore_n 3, 1) := by decide +kernel
theorem dL_copyDesk_14 : decode cL_copyDesk 14 = .ok (.iconst 1, 1) := by decide +kernel
theorem dL_copyDesk_15 : decode cL_copyDesk 15 = .ok (.ireturn, 1) := by decide +kernel
theorem dL_copyDesk_16 : decode cL_copyDesk 16 = .ok (.iconst 0, 1) := by decide +kernel
theorem dL_copyDesk_17 : decode cL_copyDesk 17 = .ok (.ireturn, 1) := by decide +kernel
theorem dL_times_0 : decode cL_times 0 = .ok (.aload_n 3, 1) := by decide +kernel
theorem dL_times_1 : decode cL_times 1 = .ok (.aload_n 0, 1) := by decide +kernel
theorem dL_times_2 : decode cL_times 2 = .ok (.iload_n 1, 1) := by decide +kernel
theorem dL_times_3 : decode cL_times 3 = .ok (.iload_n 2, 1) := by decide +kernel
theorem dL_times_4 : decode cL_times 4 = .ok (.invokevirtual 125, 3) := by decide +kernel
theorem dL_times_7 : decode cL_times 7 = .ok (.i2l, 1) := by decide +kernel
theorem dL_times_8 : decode cL_times 8 = .ok (.putfield 13, 3) := by decide +kernel
theorem dL_times_11 : decode cL_times 11 = .ok (.goto 11, 3) := by decide +kernel
theorem dL_times_14 : decode cL_times 14 = .ok (.astore 4, 2) := by decide +kernel
theorem dL_times_16 : decode cL_times 16 = .ok (.iconst 1, 1) := by decide +kernel
theorem dL_times_17 : decode cL_times 17 = .ok (.ireturn, 1) := by decide +kernel
theorem dL_times_18 : decode cL_times 18 = .ok (.astore 4, 2) := by decide +kernel
theorem dL_times_20 : decode cL_times 20 = .ok (.iconst 2, 1) := by decide +kernel
theorem dL_times_21 : decode cL_times 21 = .ok (.ireturn, 1) := by decide +kernel
theorem dL_times_22 : decode cL_times 22 = .ok (.iconst 0, 1) := by decide +kernel
theorem dL_times_23 : decode cL_times 23 = .ok (.ireturn, 1) := by decide +kernel
theorem dL_way_0 : decode cL_way 0 = .ok (.aload_n 3, 1) := by decide +kernel
theorem dL_way_1 : decode cL_way 1 = .ok (.aload_n 0, 1) := by decide +kernel
theorem dL_way_2 : decode cL_way 2 = .ok (.iload_n 1, 1) := by decide +kernel
theorem dL_way_3 : decode cL_way 3 = .ok (.iload_n 2, 1) := by decide +kernel
theorem dL_way_4 : decode cL_way 4 = .ok (.invokevirtual 128, 3) := by decide +kernel
theorem dL_way_7 : decode cL_way 7 = .ok (.i2l, 1) := by decide +kernel
theorem dL_way_8 : decode cL_way 8 = .ok (.putfield 13, 3) := by decide +kernel
theorem dL_way_11 : decode cL_way 11 = .ok (.goto 11, 3) := by decide +kernel
theorem dL_way_14 : decode cL_way 14 = .ok (.astore 4, 2) := by decide +kernel
theorem dL_way_16 : decode cL_way 16 = .ok (.iconst 1, 1) := by decide +kernel
theorem dL_way_17 : decode cL_way 17 = .ok (.ireturn, 1) := by decide +kernel
theorem dL_way_18 : decode cL_way 18 = .ok (.astore 4, 2) := by decide +kernel
theorem dL_way_20 : decode cL_way 20 = .ok (.iconst 2, 1) := by decide +kernel
theorem dL_way_21 : decode cL_way 21 = .ok (.ireturn, 1) := by decide +kernel
theorem dL_way_22 : decode cL_way 22 = .ok (.iconst 0, 1) := by decide +kernel
theorem dL_way_23 : decode cL_way 23 = .ok (.ireturn, 1) := by decide +kernel
theorem dL_wayText_0 : decode cL_wayText 0 = .ok (.aload_n 2, 1) := by decide +kernel
theorem dL_wayText_1 : decode cL_wayText 1 = .ok (.aload_n 0, 1) := by decide +kernel
theorem dL_wayText_2 : decode cL_wayText 2 = .ok (.iload_n 1, 1) := by decide +kernel
theorem dL_wayText_3 : decode cL_wayText 3 = .ok (.invokevirtual 131, 3) := by decide +kernel
theorem dL_wayText_6 : decode cL_wayText 6 = .ok (.putfield 135, 3) := by decide +kernel
theorem dL_wayText_9 : decode cL_wayText 9 = .ok (.goto 6, 3) := by decide +kernel
theorem dL_wayText_12 : decode cL_wayText 12 = .ok (.astore_n 3, 1) := by decide +kernel
theorem dL_wayText_13 : decode cL_wayText 13 = .ok (.iconst 1, 1) := by decide +kernel
theorem dL_wayText_14 : decode cL_wayText 14 = .ok (.ireturn, 1) := by decide +kernel
theorem dL_wayText_15 : decode cL_wayText 15 = .ok (.iconst 0, 1) := by decide +kernel
theorem dL_wayText_16 : decode cL_wayText 16 = .ok (.ireturn, 1) := by decide +kernel
theorem dL_isOf_0 : decode cL_isOf 0 = .ok (.aload 4, 2) := by decide +kernel
theorem dL_isOf_2 : decode cL_isOf 2 = .ok (.aload_n 0, 1) := by decide +kernel
theorem dL_isOf_3 : decode cL_isOf 3 = .ok (.iload_n 1, 1) := by decide +kernel
theorem dL_isOf_4 : decode cL_isOf 4 = .ok (.iload_n 2, 1) := by decide +kernel
theorem dL_isOf_5 : decode cL_isOf 5 = .ok (.iload_n 3, 1) := by decide +kernel
theorem dL_isOf_6 : decode cL_isOf 6 = .ok (.invokevirtual 139, 3) := by decide +kernel
theorem dL_isOf_9 : decode cL_isOf 9 = .ok (.ifCond .eq 7, 3) := by decide +kernel
theorem dL_isOf_12 : decode cL_isOf 12 = .ok (.lconst 1, 1) := by decide +kernel
theorem dL_isOf_13 : decode cL_isOf 13 = .ok (.goto 4, 3) := by decide +kernel
theorem dL_isOf_16 : decode cL_isOf 16 = .ok (.lconst 0, 1) := by decide +kernel
theorem dL_isOf_17 : decode cL_isOf 17 = .ok (.putfield 13, 3) := by decide +kernel
theorem dL_isOf_20 : decode cL_isOf 20 = .ok (.goto 11, 3) := by decide +kernel
theorem dL_isOf_23 : decode cL_isOf 23 = .ok (.astore 5, 2) := by decide +kernel
theorem dL_isOf_25 : decode cL_isOf 25 = .ok (.iconst 1, 1) := by decide +kernel
theorem dL_isOf_26 : decode cL_isOf 26 = .ok (.ireturn, 1) := by decide +kernel
theorem dL_isOf_27 : decode cL_isOf 27 = .ok (.astore 5, 2) := by decide +kernel
theorem dL_isOf_29 : decode cL_isOf 29 = .ok (.iconst 2, 1) := by decide +kernel
theorem dL_isOf_30 : decode cL_isOf 30 = .ok (.ireturn, 1) := by decide +kernel
theorem dL_isOf_31 : decode cL_isOf 31 = .ok (.iconst 0, 1) := by decide +kernel
theorem dL_isOf_32 : decode cL_isOf 32 = .ok (.ireturn, 1) := by decide +kernel
theorem dL_tally_0 : decode cL_tally 0 = .ok (.aload_n 2, 1) := by decide +kernel
theorem dL_tally_1 : decode cL_tally 1 = .ok (.aload_n 0, 1) := by decide +kernel
theorem dL_tally_2 : decode cL_tally 2 = .ok (.iload_n 1, 1) := by decide +kernel
theorem dL_tally_3 : decode cL_tally 3 = .ok (.invokevirtual 143, 3) := by decide +kernel
theorem dL_tally_6 : decode cL_tally 6 = .ok (.i2l, 1) := by decide +kernel
theorem dL_tally_7 : decode cL_tally 7 = .ok (.putfield 13, 3) := by decide +kernel
theorem dL_tally_10 : decode cL_tally 10 = .ok (.goto 6, 3) := by decide +kernel
theorem dL_tally_13 : decode cL_tally 13 = .ok (.astore_n 3, 1) := by decide +kernel
theorem dL_tally_14 : decode cL_tally 14 = .ok (.iconst 1, 1) := by decide +kernel
theorem dL_tally_15 : decode cL_tally 15 = .ok (.ireturn, 1) := by decide +kernel
theorem dL_tally_16 : decode cL_tally 16 = .ok (.iconst 0, 1) := by decide +kernel
theorem dL_tally_17 : decode cL_tally 17 = .ok (.ireturn, 1) := by decide +kernel
theorem dL_isSound_0 : decode cL_isSound 0 = .ok (.aload_n 2, 1) := by decide +kernel
theorem dL_isSound_1 : decode cL_isSound 1 = .ok (.aload_n 0, 1) := by decide +kernel
theorem dL_isSound_2 : decode cL_isSound 2 = .ok (.iload_n 1, 1) := by decide +kernel
theorem dL_isSound_3 : decode cL_isSound 3 = .ok (.invokevirtual 146, 3) := by decide +kernel
theorem dL_isSound_6 : decode cL_isSound 6 = .ok (.ifCond .eq 7, 3) := by decide +kernel
theorem dL_isSound_9 : decode cL_isSound 9 = .ok (.lconst 1, 1) := by decide +kernel
theorem dL_isSound_10 : decode cL_isSound 10 = .ok (.goto 4, 3) := by decide +kernel
theorem dL_isSound_13 : decode cL_isSound 13 = .ok (.lconst 0, 1) := by decide +kernel
theorem dL_isSound_14 : decode cL_isSound 14 = .ok (.putfield 13, 3) := by decide +kernel
theorem dL_isSound_17 : decode cL_isSound 17 = .ok (.goto 6, 3) := by decide +kernel
theorem dL_isSound_20 : decode cL_isSound 20 = .ok (.astore_n 3, 1) := by decide +kernel
theorem dL_isSound_21 : decode cL_isSound 21 = .ok (.iconst 1, 1) := by decide +kernel
theorem dL_isSound_22 : decode cL_isSound 22 = .ok (.ireturn, 1) := by decide +kernel
theorem dL_isSound_23 : decode cL_isSound 23 = .ok (.iconst 0, 1) := by decide +kernel
theorem dL_isSound_24 : decode cL_isSound 24 = .ok (.ireturn, 1) := by decide +kernel
theorem gdL_law_0 : (decode cL_law 0 = .ok (.new 8, 3)) ∧ (decode cL_law 3 = .ok (.dup, 1)) ∧ (decode cL_law 4 = .ok (.invokespecial 150, 3)) ∧ (decode cL_law 7 = .ok (.astore_n 1, 1)) ∧ (decode cL_law 8 = .ok (.new 151, 3)) ∧ (decode cL_law 11 = .ok (.dup, 1)) := by decide +kernel
theorem dL_law_0 : decode cL_law 0 = .ok (.new 8, 3) := gdL_law_0.1
theorem dL_law_3 : decode cL_law 3 = .ok (.dup, 1) := gdL_law_0.2.1
theorem dL_law_4 : decode cL_law 4 = .ok (.invokespecial 150, 3) := gdL_law_0.2.2.1
theorem dL_law_7 : decode cL_law 7 = .ok (.astore_n 1, 1) := gdL_law_0.2.2.2.1
theorem dL_law_8 : decode cL_law 8 = .ok (.new 151, 3) := gdL_law_0.2.2.2.2.1
theorem dL_law_11 : decode cL_law 11 = .ok (.dup, 1) := gdL_law_0.2.2.2.2.2
theorem gdL_law_12 : (decode cL_law 12 = .ok (.invokespecial 153, 3)) ∧ (decode cL_law 15 = .ok (.astore_n 2, 1)) ∧ (decode cL_law 16 = .ok (.new 14, 3)) ∧ (decode cL_law 19 = .ok (.dup, 1)) ∧ (decode cL_law 20 = .ok (.invokespecial 154, 3)) ∧ (decode cL_law 23 = .ok (.astore_n 3, 1)) := by decide +kernel
theorem dL_law_12 : decode cL_law 12 = .ok (.invokespecial 153, 3) := gdL_law_12.1
theorem dL_law_15 : decode cL_law 15 = .ok (.astore_n 2, 1) := gdL_law_12.2.1
theorem dL_law_16 : decode cL_law 16 = .ok (.new 14, 3) := gdL_law_12.2.2.1
theorem dL_law_19 : decode cL_law 19 = .ok (.dup, 1) := gdL_law_12.2.2.2.1
theorem dL_law_20 : decode cL_law 20 = .ok (.invokespecial 154, 3) := gdL_law_12.2.2.2.2.1
theorem dL_law_23 : decode cL_law 23 = .ok (.astore_n 3, 1) := gdL_law_12.2.2.2.2.2
theorem gdL_law_24 : (decode cL_law 24 = .ok (.iconst 0, 1)) ∧ (decode cL_law 25 = .ok (.istore 4, 2)) ∧ (decode cL_law 27 = .ok (.iload 4, 2)) ∧ (decode cL_law 29 = .ok (.aload_n 0, 1)) ∧ (decode cL_law 30 = .ok (.arraylength, 1)) ∧ (decode cL_law 31 = .ok (.bipush 6, 2)) := by decide +kernel
theorem dL_law_24 : decode cL_law 24 = .ok (.iconst 0, 1) := gdL_law_24.1
theorem dL_law_25 : decode cL_law 25 = .ok (.istore 4, 2) := gdL_law_24.2.1
theorem dL_law_27 : decode cL_law 27 = .ok (.iload 4, 2) := gdL_law_24.2.2.1
theorem dL_law_29 : decode cL_law 29 = .ok (.aload_n 0, 1) := gdL_law_24.2.2.2.1
theorem dL_law_30 : decode cL_law 30 = .ok (.arraylength, 1) := gdL_law_24.2.2.2.2.1
theorem dL_law_31 : decode cL_law 31 = .ok (.bipush 6, 2) := gdL_law_24.2.2.2.2.2
theorem gdL_law_33 : (decode cL_law 33 = .ok (.isub, 1)) ∧ (decode cL_law 34 = .ok (.if_icmp .gt 2056, 3)) ∧ (decode cL_law 37 = .ok (.aload_n 0, 1)) ∧ (decode cL_law 38 = .ok (.iload 4, 2)) ∧ (decode cL_law 40 = .ok (.iaload, 1)) ∧ (decode cL_law 41 = .ok (.bipush 63, 2)) := by decide +kernel
theorem dL_law_33 : decode cL_law 33 = .ok (.isub, 1) := gdL_law_33.1
theorem dL_law_34 : decode cL_law 34 = .ok (.if_icmp .gt 2056, 3) := gdL_law_33.2.1
theorem dL_law_37 : decode cL_law 37 = .ok (.aload_n 0, 1) := gdL_law_33.2.2.1
theorem dL_law_38 : decode cL_law 38 = .ok (.iload 4, 2) := gdL_law_33.2.2.2.1
theorem dL_law_40 : decode cL_law 40 = .ok (.iaload, 1) := gdL_law_33.2.2.2.2.1
theorem dL_law_41 : decode cL_law 41 = .ok (.bipush 63, 2) := gdL_law_33.2.2.2.2.2
theorem gdL_law_43 : (decode cL_law 43 = .ok (.iand, 1)) ∧ (decode cL_law 44 = .ok (.tableswitch 2040 0 41 #[184, 248, 300, 340, 380, 444, 508, 572, 648, 700, 728, 768, 808, 884, 960, 1036, 1076, 1116, 1168, 1208, 1260, 1312, 1352, 1392, 1432, 1484, 1536, 1576, 1616, 1644, 1672, 1700, 1728, 1756, 1796, 1836, 1864, 1916, 1929, 1986, 1999, 2027], 184)) ∧ (decode cL_law 228 = .ok (.aload_n 1, 1)) ∧ (decode cL_law 229 = .ok (.aload_n 0, 1)) ∧ (decode cL_law 230 = .ok (.iload 4, 2)) ∧ (decode cL_law 232 = .ok (.iconst 1, 1)) := by decide +kernel
theorem dL_law_43 : decode cL_law 43 = .ok (.iand, 1) := gdL_law_43.1
theorem dL_law_44 : decode cL_law 44 = .ok (.tableswitch 2040 0 41 #[184, 248, 300, 340, 380, 444, 508, 572, 648, 700, 728, 768, 808, 884, 960, 1036, 1076, 1116, 1168, 1208, 1260, 1312, 1352, 1392, 1432, 1484, 1536, 1576, 1616, 1644, 1672, 1700, 1728, 1756, 1796, 1836, 1864, 1916, 1929, 1986, 1999, 2027], 184) := gdL_law_43.2.1
theorem dL_law_228 : decode cL_law 228 = .ok (.aload_n 1, 1) := gdL_law_43.2.2.1
theorem dL_law_229 : decode cL_law 229 = .ok (.aload_n 0, 1) := gdL_law_43.2.2.2.1
theorem dL_law_230 : decode cL_law 230 = .ok (.iload 4, 2) := gdL_law_43.2.2.2.2.1
theorem dL_law_232 : decode cL_law 232 = .ok (.iconst 1, 1) := gdL_law_43.2.2.2.2.2
theorem gdL_law_233 : (decode cL_law 233 = .ok (.iadd, 1)) ∧ (decode cL_law 234 = .ok (.iaload, 1)) ∧ (decode cL_law 235 = .ok (.aload_n 0, 1)) ∧ (decode cL_law 236 = .ok (.iload 4, 2)) ∧ (decode cL_law 238 = .ok (.iconst 2, 1)) ∧ (decode cL_law 239 = .ok (.iadd, 1)) := by decide +kernel
theorem dL_law_233 : decode cL_law 233 = .ok (.iadd, 1) := gdL_law_233.1
theorem dL_law_234 : decode cL_law 234 = .ok (.iaload, 1) := gdL_law_233.2.1
theorem dL_law_235 : decode cL_law 235 = .ok (.aload_n 0, 1) := gdL_law_233.2.2.1
theorem dL_law_236 : decode cL_law 236 = .ok (.iload 4, 2) := gdL_law_233.2.2.2.1
theorem dL_law_238 : decode cL_law 238 = .ok (.iconst 2, 1) := gdL_law_233.2.2.2.2.1
theorem dL_law_239 : decode cL_law 239 = .ok (.iadd, 1) := gdL_law_233.2.2.2.2.2
theorem gdL_law_240 : (decode cL_law 240 = .ok (.iaload, 1)) ∧ (decode cL_law 241 = .ok (.aload_n 0, 1)) ∧ (decode cL_law 242 = .ok (.iload 4, 2)) ∧ (decode cL_law 244 = .ok (.iconst 3, 1)) ∧ (decode cL_law 245 = .ok (.iadd, 1)) ∧ (decode cL_law 246 = .ok (.iaload, 1)) := by decide +kernel
theorem dL_law_240 : decode cL_law 240 = .ok (.iaload, 1) := gdL_law_240.1
theorem dL_law_241 : decode cL_law 241 = .ok (.aload_n 0, 1) := gdL_law_240.2.1
theorem dL_law_242 : decode cL_law 242 = .ok (.iload 4, 2) := gdL_law_240.2.2.1
theorem dL_law_244 : decode cL_law 244 = .ok (.iconst 3, 1) := gdL_law_240.2.2.2.1
theorem dL_law_245 : decode cL_law 245 = .ok (.iadd, 1) := gdL_law_240.2.2.2.2.1
theorem dL_law_246 : decode cL_law 246 = .ok (.iaload, 1) := gdL_law_240.2.2.2.2.2
theorem gdL_law_247 : (decode cL_law 247 = .ok (.aload_n 0, 1)) ∧ (decode cL_law 248 = .ok (.iload 4, 2)) ∧ (decode cL_law 250 = .ok (.iconst 4, 1)) ∧ (decode cL_law 251 = .ok (.iadd, 1)) ∧ (decode cL_law 252 = .ok (.iaload, 1)) ∧ (decode cL_law 253 = .ok (.aload_n 3, 1)) := by decide +kernel
theorem dL_law_247 : decode cL_law 247 = .ok (.aload_n 0, 1) := gdL_law_247.1
theorem dL_law_248 : decode cL_law 248 = .ok (.iload 4, 2) := gdL_law_247.2.1
theorem dL_law_250 : decode cL_law 250 = .ok (.iconst 4, 1) := gdL_law_247.2.2.1
theorem dL_law_251 : decode cL_law 251 = .ok (.iadd, 1) := gdL_law_247.2.2.2.1
theorem dL_law_252 : decode cL_law 252 = .ok (.iaload, 1) := gdL_law_247.2.2.2.2.1
theorem dL_law_253 : decode cL_law 253 = .ok (.aload_n 3, 1) := gdL_law_247.2.2.2.2.2
theorem gdL_law_254 : (decode cL_law 254 = .ok (.invokestatic 155, 3)) ∧ (decode cL_law 257 = .ok (.istore 5, 2)) ∧ (decode cL_law 259 = .ok (.aload_n 2, 1)) ∧ (decode cL_law 260 = .ok (.aload_n 0, 1)) ∧ (decode cL_law 261 = .ok (.iload 4, 2)) ∧ (decode cL_law 263 = .ok (.iconst 1, 1)) := by decide +kernel
theorem dL_law_254 : decode cL_law 254 = .ok (.invokestatic 155, 3) := gdL_law_254.1
theorem dL_law_257 : decode cL_law 257 = .ok (.istore 5, 2) := gdL_law_254.2.1
theorem dL_law_259 : decode cL_law 259 = .ok (.aload_n 2, 1) := gdL_law_254.2.2.1
theorem dL_law_260 : decode cL_law 260 = .ok (.aload_n 0, 1) := gdL_law_254.2.2.2.1
theorem dL_law_261 : decode cL_law 261 = .ok (.iload 4, 2) := gdL_law_254.2.2.2.2.1
theorem dL_law_263 : decode cL_law 263 = .ok (.iconst 1, 1) := gdL_law_254.2.2.2.2.2
theorem gdL_law_264 : (decode cL_law 264 = .ok (.iadd, 1)) ∧ (decode cL_law 265 = .ok (.iaload, 1)) ∧ (decode cL_law 266 = .ok (.aload_n 0, 1)) ∧ (decode cL_law 267 = .ok (.iload 4, 2)) ∧ (decode cL_law 269 = .ok (.iconst 2, 1)) ∧ (decode cL_law 270 = .ok (.iadd, 1)) := by decide +kernel
theorem dL_law_264 : decode cL_law 264 = .ok (.iadd, 1) := gdL_law_264.1
theorem dL_law_265 : decode cL_law 265 = .ok (.iaload, 1) := gdL_law_264.2.1
theorem dL_law_266 : decode cL_law 266 = .ok (.aload_n 0, 1) := gdL_law_264.2.2.1
theorem dL_law_267 : decode cL_law 267 = .ok (.iload 4, 2) := gdL_law_264.2.2.2.1
theorem dL_law_269 : decode cL_law 269 = .ok (.iconst 2, 1) := gdL_law_264.2.2.2.2.1
theorem dL_law_270 : decode cL_law 270 = .ok (.iadd, 1) := gdL_law_264.2.2.2.2.2
theorem gdL_law_271 : (decode cL_law 271 = .ok (.iaload, 1)) ∧ (decode cL_law 272 = .ok (.aload_n 0, 1)) ∧ (decode cL_law 273 = .ok (.iload 4, 2)) ∧ (decode cL_law 275 = .ok (.iconst 3, 1)) ∧ (decode cL_law 276 = .ok (.iadd, 1)) ∧ (decode cL_law 277 = .ok (.iaload, 1)) := by decide +kernel
theorem dL_law_271 : decode cL_law 271 = .ok (.iaload, 1) := gdL_law_271.1
theorem dL_law_272 : decode cL_law 272 = .ok (.aload_n 0, 1) := gdL_law_271.2.1
theorem dL_law_273 : decode cL_law 273 = .ok (.iload 4, 2) := gdL_law_271.2.2.1
theorem dL_law_275 : decode cL_law 275 = .ok (.iconst 3, 1) := gdL_law_271.2.2.2.1
theorem dL_law_276 : decode cL_law 276 = .ok (.iadd, 1) := gdL_law_271.2.2.2.2.1
theorem dL_law_277 : decode cL_law 277 = .ok (.iaload, 1) := gdL_law_271.2.2.2.2.2
theorem gdL_law_278 : (decode cL_law 278 = .ok (.aload_n 0, 1)) ∧ (decode cL_law 279 = .ok (.iload 4, 2)) ∧ (decode cL_law 281 = .ok (.iconst 4, 1)) ∧ (decode cL_law 282 = .ok (.iadd, 1)) ∧ (decode cL_law 283 = .ok (.iaload, 1)) ∧ (decode cL_law 284 = .ok (.invokevirtual 160, 3)) := by decide +kernel
theorem dL_law_278 : decode cL_law 278 = .ok (.aload_n 0, 1) := gdL_law_278.1
theorem dL_law_279 : decode cL_law 279 = .ok (.iload 4, 2) := gdL_law_278.2.1
theorem dL_law_281 : decode cL_law 281 = .ok (.iconst 4, 1) := gdL_law_278.2.2.1
theorem dL_law_282 : decode cL_law 282 = .ok (.iadd, 1) := gdL_law_278.2.2.2.1
theorem dL_law_283 : decode cL_law 283 = .ok (.iaload, 1) := gdL_law_278.2.2.2.2.1
theorem dL_law_284 : decode cL_law 284 = .ok (.invokevirtual 160, 3) := gdL_law_278.2.2.2.2.2
theorem gdL_law_287 : (decode cL_law 287 = .ok (.istore 6, 2)) ∧ (decode cL_law 289 = .ok (.goto 1795, 3)) ∧ (decode cL_law 292 = .ok (.aload_n 1, 1)) ∧ (decode cL_law 293 = .ok (.aload_n 0, 1)) ∧ (decode cL_law 294 = .ok (.iload 4, 2)) ∧ (decode cL_law 296 = .ok (.iconst 1, 1)) := by decide +kernel
theorem dL_law_287 : decode cL_law 287 = .ok (.istore 6, 2) := gdL_law_287.1
theorem dL_law_289 : decode cL_law 289 = .ok (.goto 1795, 3) := gdL_law_287.2.1
theorem dL_law_292 : decode cL_law 292 = .ok (.aload_n 1, 1) := gdL_law_287.2.2.1
theorem dL_law_293 : decode cL_law 293 = .ok (.aload_n 0, 1) := gdL_law_287.2.2.2.1
theorem dL_law_294 : decode cL_law 294 = .ok (.iload 4, 2) := gdL_law_287.2.2.2.2.1
theorem dL_law_296 : decode cL_law 296 = .ok (.iconst 1, 1) := gdL_law_287.2.2.2.2.2
theorem gdL_law_297 : (decode cL_law 297 = .ok (.iadd, 1)) ∧ (decode cL_law 298 = .ok (.iaload, 1)) ∧ (decode cL_law 299 = .ok (.aload_n 0, 1)) ∧ (decode cL_law 300 = .ok (.iload 4, 2)) ∧ (decode cL_law 302 = .ok (.iconst 2, 1)) ∧ (decode cL_law 303 = .ok (.iadd, 1)) := by decide +kernel
theorem dL_law_297 : decode cL_law 297 = .ok (.iadd, 1) := gdL_law_297.1
theorem dL_law_298 : decode cL_law 298 = .ok (.iaload, 1) := gdL_law_297.2.1
theorem dL_law_299 : decode cL_law 299 = .ok (.aload_n 0, 1) := gdL_law_297.2.2.1
theorem dL_law_300 : decode cL_law 300 = .ok (.iload 4, 2) := gdL_law_297.2.2.2.1
theorem dL_law_302 : decode cL_law 302 = .ok (.iconst 2, 1) := gdL_law_297.2.2.2.2.1
theorem dL_law_303 : decode cL_law 303 = .ok (.iadd, 1) := gdL_law_297.2.2.2.2.2
theorem gdL_law_304 : (decode cL_law 304 = .ok (.iaload, 1)) ∧ (decode cL_law 305 = .ok (.aload_n 0, 1)) ∧ (decode cL_law 306 = .ok (.iload 4, 2)) ∧ (decode cL_law 308 = .ok (.iconst 3, 1)) ∧ (decode cL_law 309 = .ok (.iadd, 1)) ∧ (decode cL_law 310 = .ok (.iaload, 1)) := by decide +kernel
theorem dL_law_304 : decode cL_law 304 = .ok (.iaload, 1) := gdL_law_304.1
theorem dL_law_305 : decode cL_law 305 = .ok (.aload_n 0, 1) := gdL_law_304.2.1
theorem dL_law_306 : decode cL_law 306 = .ok (.iload 4, 2) := gdL_law_304.2.2.1
theorem dL_law_308 : decode cL_law 308 = .ok (.iconst 3, 1) := gdL_law_304.2.2.2.1
theorem dL_law_309 : decode cL_law 309 = .ok (.iadd, 1) := gdL_law_304.2.2.2.2.1
theorem dL_law_310 : decode cL_law 310 = .ok (.iaload, 1) := gdL_law_304.2.2.2.2.2
theorem gdL_law_311 : (decode cL_law 311 = .ok (.aload_n 3, 1)) ∧ (decode cL_law 312 = .ok (.invokestatic 161, 3)) ∧ (decode cL_law 315 = .ok (.istore 5, 2)) ∧ (decode cL_law 317 = .ok (.aload_n 2, 1)) ∧ (decode cL_law 318 = .ok (.aload_n 0, 1)) ∧ (decode cL_law 319 = .ok (.iload 4, 2)) := by decide +kernel
theorem dL_law_311 : decode cL_law 311 = .ok (.aload_n 3, 1) := gdL_law_311.1
theorem dL_law_312 : decode cL_law 312 = .ok (.invokestatic 161, 3) := gdL_law_311.2.1
theorem dL_law_315 : decode cL_law 315 = .ok (.istore 5, 2) := gdL_law_311.2.2.1
theorem dL_law_317 : decode cL_law 317 = .ok (.aload_n 2, 1) := gdL_law_311.2.2.2.1
theorem dL_law_318 : decode cL_law 318 = .ok (.aload_n 0, 1) := gdL_law_311.2.2.2.2.1
theorem dL_law_319 : decode cL_law 319 = .ok (.iload 4, 2) := gdL_law_311.2.2.2.2.2
theorem gdL_law_321 : (decode cL_law 321 = .ok (.iconst 1, 1)) ∧ (decode cL_law 322 = .ok (.iadd, 1)) ∧ (decode cL_law 323 = .ok (.iaload, 1)) ∧ (decode cL_law 324 = .ok (.aload_n 0, 1)) ∧ (decode cL_law 325 = .ok (.iload 4, 2)) ∧ (decode cL_law 327 = .ok (.iconst 2, 1)) := by decide +kernel
theorem dL_law_321 : decode cL_law 321 = .ok (.iconst 1, 1) := gdL_law_321.1
theorem dL_law_322 : decode cL_law 322 = .ok (.iadd, 1) := gdL_law_321.2.1
theorem dL_law_323 : decode cL_law 323 = .ok (.iaload, 1) := gdL_law_321.2.2.1
theorem dL_law_324 : decode cL_law 324 = .ok (.aload_n 0, 1) := gdL_law_321.2.2.2.1
theorem dL_law_325 : decode cL_law 325 = .ok (.iload 4, 2) := gdL_law_321.2.2.2.2.1
theorem dL_law_327 : decode cL_law 327 = .ok (.iconst 2, 1) := gdL_law_321.2.2.2.2.2
theorem gdL_law_328 : (decode cL_law 328 = .ok (.iadd, 1)) ∧ (decode cL_law 329 = .ok (.iaload, 1)) ∧ (decode cL_law 330 = .ok (.aload_n 0, 1)) ∧ (decode cL_law 331 = .ok (.iload 4, 2)) ∧ (decode cL_law 333 = .ok (.iconst 3, 1)) ∧ (decode cL_law 334 = .ok (.iadd, 1)) := by decide +kernel
theorem dL_law_328 : decode cL_law 328 = .ok (.iadd, 1) := gdL_law_328.1
theorem dL_law_329 : decode cL_law 329 = .ok (.iaload, 1) := gdL_law_328.2.1
theorem dL_law_330 : decode cL_law 330 = .ok (.aload_n 0, 1) := gdL_law_328.2.2.1
theorem dL_law_331 : decode cL_law 331 = .ok (.iload 4, 2) := gdL_law_328.2.2.2.1
theorem dL_law_333 : decode cL_law 333 = .ok (.iconst 3, 1) := gdL_law_328.2.2.2.2.1
theorem dL_law_334 : decode cL_law 334 = .ok (.iadd, 1) := gdL_law_328.2.2.2.2.2
theorem gdL_law_335 : (decode cL_law 335 = .ok (.iaload, 1)) ∧ (decode cL_law 336 = .ok (.invokevirtual 164, 3)) ∧ (decode cL_law 339 = .ok (.istore 6, 2)) ∧ (decode cL_law 341 = .ok (.goto 1743, 3)) ∧ (decode cL_law 344 = .ok (.aload_n 1, 1)) ∧ (decode cL_law 345 = .ok (.aload_n 0, 1)) := by decide +kernel
theorem dL_law_335 : decode cL_law 335 = .ok (.iaload, 1) := gdL_law_335.1
theorem dL_law_336 : decode cL_law 336 = .ok (.invokevirtual 164, 3) := gdL_law_335.2.1
theorem dL_law_339 : decode cL_law 339 = .ok (.istore 6, 2) := gdL_law_335.2.2.1
theorem dL_law_341 : decode cL_law 341 = .ok (.goto 1743, 3) := gdL_law_335.2.2.2.1
theorem dL_law_344 : decode cL_law 344 = .ok (.aload_n 1, 1) := gdL_law_335.2.2.2.2.1
theorem dL_law_345 : decode cL_law 345 = .ok (.aload_n 0, 1) := gdL_law_335.2.2.2.2.2
theorem gdL_law_346 : (decode cL_law 346 = .ok (.iload 4, 2)) ∧ (decode cL_law 348 = .ok (.iconst 1, 1)) ∧ (decode cL_law 349 = .ok (.iadd, 1)) ∧ (decode cL_law 350 = .ok (.iaload, 1)) ∧ (decode cL_law 351 = .ok (.aload_n 0, 1)) ∧ (decode cL_law 352 = .ok (.iload 4, 2)) := by decide +kernel
theorem dL_law_346 : decode cL_law 346 = .ok (.iload 4, 2) := gdL_law_346.1
theorem dL_law_348 : decode cL_law 348 = .ok (.iconst 1, 1) := gdL_law_346.2.1
theorem dL_law_349 : decode cL_law 349 = .ok (.iadd, 1) := gdL_law_346.2.2.1
theorem dL_law_350 : decode cL_law 350 = .ok (.iaload, 1) := gdL_law_346.2.2.2.1
theorem dL_law_351 : decode cL_law 351 = .ok (.aload_n 0, 1) := gdL_law_346.2.2.2.2.1
theorem dL_law_352 : decode cL_law 352 = .ok (.iload 4, 2) := gdL_law_346.2.2.2.2.2
theorem gdL_law_354 : (decode cL_law 354 = .ok (.iconst 2, 1)) ∧ (decode cL_law 355 = .ok (.iadd, 1)) ∧ (decode cL_law 356 = .ok (.iaload, 1)) ∧ (decode cL_law 357 = .ok (.aload_n 3, 1)) ∧ (decode cL_law 358 = .ok (.invokestatic 165, 3)) ∧ (decode cL_law 361 = .ok (.istore 5, 2)) := by decide +kernel
theorem dL_law_354 : decode cL_law 354 = .ok (.iconst 2, 1) := gdL_law_354.1
theorem dL_law_355 : decode cL_law 355 = .ok (.iadd, 1) := gdL_law_354.2.1
theorem dL_law_356 : decode cL_law 356 = .ok (.iaload, 1) := gdL_law_354.2.2.1
theorem dL_law_357 : decode cL_law 357 = .ok (.aload_n 3, 1) := gdL_law_354.2.2.2.1
theorem dL_law_358 : decode cL_law 358 = .ok (.invokestatic 165, 3) := gdL_law_354.2.2.2.2.1
theorem dL_law_361 : decode cL_law 361 = .ok (.istore 5, 2) := gdL_law_354.2.2.2.2.2
theorem gdL_law_363 : (decode cL_law 363 = .ok (.aload_n 2, 1)) ∧ (decode cL_law 364 = .ok (.aload_n 0, 1)) ∧ (decode cL_law 365 = .ok (.iload 4, 2)) ∧ (decode cL_law 367 = .ok (.iconst 1, 1)) ∧ (decode cL_law 368 = .ok (.iadd, 1)) ∧ (decode cL_law 369 = .ok (.iaload, 1)) := by decide +kernel
theorem dL_law_363 : decode cL_law 363 = .ok (.aload_n 2, 1) := gdL_law_363.1
theorem dL_law_364 : decode cL_law 364 = .ok (.aload_n 0, 1) := gdL_law_363.2.1
theorem dL_law_365 : decode cL_law 365 = .ok (.iload 4, 2) := gdL_law_363.2.2.1
theorem dL_law_367 : decode cL_law 367 = .ok (.iconst 1, 1) := gdL_law_363.2.2.2.1
theorem dL_law_368 : decode cL_law 368 = .ok (.iadd, 1) := gdL_law_363.2.2.2.2.1
theorem dL_law_369 : decode cL_law 369 = .ok (.iaload, 1) := gdL_law_363.2.2.2.2.2
theorem gdL_law_370 : (decode cL_law 370 = .ok (.aload_n 0, 1)) ∧ (decode cL_law 371 = .ok (.iload 4, 2)) ∧ (decode cL_law 373 = .ok (.iconst 2, 1)) ∧ (decode cL_law 374 = .ok (.iadd, 1)) ∧ (decode cL_law 375 = .ok (.iaload, 1)) ∧ (decode cL_law 376 = .ok (.invokevirtual 168, 3)) := by decide +kernel
theorem dL_law_370 : decode cL_law 370 = .ok (.aload_n 0, 1) := gdL_law_370.1
theorem dL_law_371 : decode cL_law 371 = .ok (.iload 4, 2) := gdL_law_370.2.1
theorem dL_law_373 : decode cL_law 373 = .ok (.iconst 2, 1) := gdL_law_370.2.2.1
theorem dL_law_374 : decode cL_law 374 = .ok (.iadd, 1) := gdL_law_370.2.2.2.1
theorem dL_law_375 : decode cL_law 375 = .ok (.iaload, 1) := gdL_law_370.2.2.2.2.1
theorem dL_law_376 : decode cL_law 376 = .ok (.invokevirtual 168, 3) := gdL_law_370.2.2.2.2.2
theorem gdL_law_379 : (decode cL_law 379 = .ok (.istore 6, 2)) ∧ (decode cL_law 381 = .ok (.goto 1703, 3)) ∧ (decode cL_law 384 = .ok (.aload_n 1, 1)) ∧ (decode cL_law 385 = .ok (.aload_n 0, 1)) ∧ (decode cL_law 386 = .ok (.iload 4, 2)) ∧ (decode cL_law 388 = .ok (.iconst 1, 1)) := by decide +kernel
theorem dL_law_379 : decode cL_law 379 = .ok (.istore 6, 2) := gdL_law_379.1
theorem dL_law_381 : decode cL_law 381 = .ok (.goto 1703, 3) := gdL_law_379.2.1
theorem dL_law_384 : decode cL_law 384 = .ok (.aload_n 1, 1) := gdL_law_379.2.2.1
theorem dL_law_385 : decode cL_law 385 = .ok (.aload_n 0, 1) := gdL_law_379.2.2.2.1
theorem dL_law_386 : decode cL_law 386 = .ok (.iload 4, 2) := gdL_law_379.2.2.2.2.1
theorem dL_law_388 : decode cL_law 388 = .ok (.iconst 1, 1) := gdL_law_379.2.2.2.2.2
theorem gdL_law_389 : (decode cL_law 389 = .ok (.iadd, 1)) ∧ (decode cL_law 390 = .ok (.iaload, 1)) ∧ (decode cL_law 391 = .ok (.aload_n 0, 1)) ∧ (decode cL_law 392 = .ok (.iload 4, 2)) ∧ (decode cL_law 394 = .ok (.iconst 2, 1)) ∧ (decode cL_law 395 = .ok (.iadd, 1)) := by decide +kernel
theorem dL_law_389 : decode cL_law 389 = .ok (.iadd, 1) := gdL_law_389.1
theorem dL_law_390 : decode cL_law 390 = .ok (.iaload, 1) := gdL_law_389.2.1
theorem dL_law_391 : decode cL_law 391 = .ok (.aload_n 0, 1) := gdL_law_389.2.2.1
theorem dL_law_392 : decode cL_law 392 = .ok (.iload 4, 2) := gdL_law_389.2.2.2.1
theorem dL_law_394 : decode cL_law 394 = .ok (.iconst 2, 1) := gdL_law_389.2.2.2.2.1
theorem dL_law_395 : decode cL_law 395 = .ok (.iadd, 1) := gdL_law_389.2.2.2.2.2
theorem gdL_law_396 : (decode cL_law 396 = .ok (.iaload, 1)) ∧ (decode cL_law 397 = .ok (.aload_n 3, 1)) ∧ (decode cL_law 398 = .ok (.invokestatic 169, 3)) ∧ (decode cL_law 401 = .ok (.istore 5, 2)) ∧ (decode cL_law 403 = .ok (.aload_n 2, 1)) ∧ (decode cL_law 404 = .ok (.aload_n 0, 1)) := by decide +kernel
theorem dL_law_396 : decode cL_law 396 = .ok (.iaload, 1) := gdL_law_396.1
theorem dL_law_397 : decode cL_law 397 = .ok (.aload_n 3, 1) := gdL_law_396.2.1
theorem dL_law_398 : decode cL_law 398 = .ok (.invokestatic 169, 3) := gdL_law_396.2.2.1
theorem dL_law_401 : decode cL_law 401 = .ok (.istore 5, 2) := gdL_law_396.2.2.2.1
theorem dL_law_403 : decode cL_law 403 = .ok (.aload_n 2, 1) := gdL_law_396.2.2.2.2.1
theorem dL_law_404 : decode cL_law 404 = .ok (.aload_n 0, 1) := gdL_law_396.2.2.2.2.2
theorem gdL_law_405 : (decode cL_law 405 = .ok (.iload 4, 2)) ∧ (decode cL_law 407 = .ok (.iconst 1, 1)) ∧ (decode cL_law 408 = .ok (.iadd, 1)) ∧ (decode cL_law 409 = .ok (.iaload, 1)) ∧ (decode cL_law 410 = .ok (.aload_n 0, 1)) ∧ (decode cL_law 411 = .ok (.iload 4, 2)) := by decide +kernel
theorem dL_law_405 : decode cL_law 405 = .ok (.iload 4, 2) := gdL_law_405.1
theorem dL_law_407 : decode cL_law 407 = .ok (.iconst 1, 1) := gdL_law_405.2.1
theorem dL_law_408 : decode cL_law 408 = .ok (.iadd, 1) := gdL_law_405.2.2.1
theorem dL_law_409 : decode cL_law 409 = .ok (.iaload, 1) := gdL_law_405.2.2.2.1
theorem dL_law_410 : decode cL_law 410 = .ok (.aload_n 0, 1) := gdL_law_405.2.2.2.2.1
theorem dL_law_411 : decode cL_law 411 = .ok (.iload 4, 2) := gdL_law_405.2.2.2.2.2
theorem gdL_law_413 : (decode cL_law 413 = .ok (.iconst 2, 1)) ∧ (decode cL_law 414 = .ok (.iadd, 1)) ∧ (decode cL_law 415 = .ok (.iaload, 1)) ∧ (decode cL_law 416 = .ok (.invokevirtual 171, 3)) ∧ (decode cL_law 419 = .ok (.istore 6, 2)) ∧ (decode cL_law 421 = .ok (.goto 1663, 3)) := by decide +kernel
theorem dL_law_413 : decode cL_law 413 = .ok (.iconst 2, 1) := gdL_law_413.1
theorem dL_law_414 : decode cL_law 414 = .ok (.iadd, 1) := gdL_law_413.2.1
theorem dL_law_415 : decode cL_law 415 = .ok (.iaload, 1) := gdL_law_413.2.2.1
theorem dL_law_416 : decode cL_law 416 = .ok (.invokevirtual 171, 3) := gdL_law_413.2.2.2.1
theorem dL_law_419 : decode cL_law 419 = .ok (.istore 6, 2) := gdL_law_413.2.2.2.2.1
theorem dL_law_421 : decode cL_law 421 = .ok (.goto 1663, 3) := gdL_law_413.2.2.2.2.2
theorem gdL_law_424 : (decode cL_law 424 = .ok (.aload_n 1, 1)) ∧ (decode cL_law 425 = .ok (.aload_n 0, 1)) ∧ (decode cL_law 426 = .ok (.iload 4, 2)) ∧ (decode cL_law 428 = .ok (.iconst 1, 1)) ∧ (decode cL_law 429 = .ok (.iadd, 1)) ∧ (decode cL_law 430 = .ok (.iaload, 1)) := by decide +kernel
theorem dL_law_424 : decode cL_law 424 = .ok (.aload_n 1, 1) := gdL_law_424.1
theorem dL_law_425 : decode cL_law 425 = .ok (.aload_n 0, 1) := gdL_law_424.2.1
theorem dL_law_426 : decode cL_law 426 = .ok (.iload 4, 2) := gdL_law_424.2.2.1
theorem dL_law_428 : decode cL_law 428 = .ok (.iconst 1, 1) := gdL_law_424.2.2.2.1
theorem dL_law_429 : decode cL_law 429 = .ok (.iadd, 1) := gdL_law_424.2.2.2.2.1
theorem dL_law_430 : decode cL_law 430 = .ok (.iaload, 1) := gdL_law_424.2.2.2.2.2
theorem gdL_law_431 : (decode cL_law 431 = .ok (.aload_n 0, 1)) ∧ (decode cL_law 432 = .ok (.iload 4, 2)) ∧ (decode cL_law 434 = .ok (.iconst 2, 1)) ∧ (decode cL_law 435 = .ok (.iadd, 1)) ∧ (decode cL_law 436 = .ok (.iaload, 1)) ∧ (decode cL_law 437 = .ok (.aload_n 0, 1)) := by decide +kernel
theorem dL_law_431 : decode cL_law 431 = .ok (.aload_n 0, 1) := gdL_law_431.1
theorem dL_law_432 : decode cL_law 432 = .ok (.iload 4, 2) := gdL_law_431.2.1
theorem dL_law_434 : decode cL_law 434 = .ok (.iconst 2, 1) := gdL_law_431.2.2.1
theorem dL_law_435 : decode cL_law 435 = .ok (.iadd, 1) := gdL_law_431.2.2.2.1
theorem dL_law_436 : decode cL_law 436 = .ok (.iaload, 1) := gdL_law_431.2.2.2.2.1
theorem dL_law_437 : decode cL_law 437 = .ok (.aload_n 0, 1) := gdL_law_431.2.2.2.2.2
theorem gdL_law_438 : (decode cL_law 438 = .ok (.iload 4, 2)) ∧ (decode cL_law 440 = .ok (.iconst 3, 1)) ∧ (decode cL_law 441 = .ok (.iadd, 1)) ∧ (decode cL_law 442 = .ok (.iaload, 1)) ∧ (decode cL_law 443 = .ok (.aload_n 0, 1)) ∧ (decode cL_law 444 = .ok (.iload 4, 2)) := by decide +kernel
theorem dL_law_438 : decode cL_law 438 = .ok (.iload 4, 2) := gdL_law_438.1
theorem dL_law_440 : decode cL_law 440 = .ok (.iconst 3, 1) := gdL_law_438.2.1
theorem dL_law_441 : decode cL_law 441 = .ok (.iadd, 1) := gdL_law_438.2.2.1
theorem dL_law_442 : decode cL_law 442 = .ok (.iaload, 1) := gdL_law_438.2.2.2.1
theorem dL_law_443 : decode cL_law 443 = .ok (.aload_n 0, 1) := gdL_law_438.2.2.2.2.1
theorem dL_law_444 : decode cL_law 444 = .ok (.iload 4, 2) := gdL_law_438.2.2.2.2.2
theorem gdL_law_446 : (decode cL_law 446 = .ok (.iconst 4, 1)) ∧ (decode cL_law 447 = .ok (.iadd, 1)) ∧ (decode cL_law 448 = .ok (.iaload, 1)) ∧ (decode cL_law 449 = .ok (.aload_n 3, 1)) ∧ (decode cL_law 450 = .ok (.invokestatic 172, 3)) ∧ (decode cL_law 453 = .ok (.istore 5, 2)) := by decide +kernel
theorem dL_law_446 : decode cL_law 446 = .ok (.iconst 4, 1) := gdL_law_446.1
theorem dL_law_447 : decode cL_law 447 = .ok (.iadd, 1) := gdL_law_446.2.1
theorem dL_law_448 : decode cL_law 448 = .ok (.iaload, 1) := gdL_law_446.2.2.1
theorem dL_law_449 : decode cL_law 449 = .ok (.aload_n 3, 1) := gdL_law_446.2.2.2.1
theorem dL_law_450 : decode cL_law 450 = .ok (.invokestatic 172, 3) := gdL_law_446.2.2.2.2.1
theorem dL_law_453 : decode cL_law 453 = .ok (.istore 5, 2) := gdL_law_446.2.2.2.2.2
theorem gdL_law_455 : (decode cL_law 455 = .ok (.aload_n 2, 1)) ∧ (decode cL_law 456 = .ok (.aload_n 0, 1)) ∧ (decode cL_law 457 = .ok (.iload 4, 2)) ∧ (decode cL_law 459 = .ok (.iconst 1, 1)) ∧ (decode cL_law 460 = .ok (.iadd, 1)) ∧ (decode cL_law 461 = .ok (.iaload, 1)) := by decide +kernel
theorem dL_law_455 : decode cL_law 455 = .ok (.aload_n 2, 1) := gdL_law_455.1
theorem dL_law_456 : decode cL_law 456 = .ok (.aload_n 0, 1) := gdL_law_455.2.1
theorem dL_law_457 : decode cL_law 457 = .ok (.iload 4, 2) := gdL_law_455.2.2.1
theorem dL_law_459 : decode cL_law 459 = .ok (.iconst 1, 1) := gdL_law_455.2.2.2.1
theorem dL_law_460 : decode cL_law 460 = .ok (.iadd, 1) := gdL_law_455.2.2.2.2.1
theorem dL_law_461 : decode cL_law 461 = .ok (.iaload, 1) := gdL_law_455.2.2.2.2.2
theorem gdL_law_462 : (decode cL_law 462 = .ok (.aload_n 0, 1)) ∧ (decode cL_law 463 = .ok (.iload 4, 2)) ∧ (decode cL_law 465 = .ok (.iconst 2, 1)) ∧ (decode cL_law 466 = .ok (.iadd, 1)) ∧ (decode cL_law 467 = .ok (.iaload, 1)) ∧ (decode cL_law 468 = .ok (.aload_n 0, 1)) := by decide +kernel
theorem dL_law_462 : decode cL_law 462 = .ok (.aload_n 0, 1) := gdL_law_462.1
theorem dL_law_463 : decode cL_law 463 = .ok (.iload 4, 2) := gdL_law_462.2.1
theorem dL_law_465 : decode cL_law 465 = .ok (.iconst 2, 1) := gdL_law_462.2.2.1
theorem dL_law_466 : decode cL_law 466 = .ok (.iadd, 1) := gdL_law_462.2.2.2.1
theorem dL_law_467 : decode cL_law 467 = .ok (.iaload, 1) := gdL_law_462.2.2.2.2.1
theorem dL_law_468 : decode cL_law 468 = .ok (.aload_n 0, 1) := gdL_law_462.2.2.2.2.2
theorem gdL_law_469 : (decode cL_law 469 = .ok (.iload 4, 2)) ∧ (decode cL_law 471 = .ok (.iconst 3, 1)) ∧ (decode cL_law 472 = .ok (.iadd, 1)) ∧ (decode cL_law 473 = .ok (.iaload, 1)) ∧ (decode cL_law 474 = .ok (.aload_n 0, 1)) ∧ (decode cL_law 475 = .ok (.iload 4, 2)) := by decide +kernel
theorem dL_law_469 : decode cL_law 469 = .ok (.iload 4, 2) := gdL_law_469.1
theorem dL_law_471 : decode cL_law 471 = .ok (.iconst 3, 1) := gdL_law_469.2.1
theorem dL_law_472 : decode cL_law 472 = .ok (.iadd, 1) := gdL_law_469.2.2.1
theorem dL_law_473 : decode cL_law 473 = .ok (.iaload, 1) := gdL_law_469.2.2.2.1
theorem dL_law_474 : decode cL_law 474 = .ok (.aload_n 0, 1) := gdL_law_469.2.2.2.2.1
theorem dL_law_475 : decode cL_law 475 = .ok (.iload 4, 2) := gdL_law_469.2.2.2.2.2
theorem gdL_law_477 : (decode cL_law 477 = .ok (.iconst 4, 1)) ∧ (decode cL_law 478 = .ok (.iadd, 1)) ∧ (decode cL_law 479 = .ok (.iaload, 1)) ∧ (decode cL_law 480 = .ok (.invokevirtual 174, 3)) ∧ (decode cL_law 483 = .ok (.istore 6, 2)) ∧ (decode cL_law 485 = .ok (.goto 1599, 3)) := by decide +kernel
theorem dL_law_477 : decode cL_law 477 = .ok (.iconst 4, 1) := gdL_law_477.1
theorem dL_law_478 : decode cL_law 478 = .ok (.iadd, 1) := gdL_law_477.2.1
theorem dL_law_479 : decode cL_law 479 = .ok (.iaload, 1) := gdL_law_477.2.2.1
theorem dL_law_480 : decode cL_law 480 = .ok (.invokevirtual 174, 3) := gdL_law_477.2.2.2.1
theorem dL_law_483 : decode cL_law 483 = .ok (.istore 6, 2) := gdL_law_477.2.2.2.2.1
theorem dL_law_485 : decode cL_law 485 = .ok (.goto 1599, 3) := gdL_law_477.2.2.2.2.2
theorem gdL_law_488 : (decode cL_law 488 = .ok (.aload_n 1, 1)) ∧ (decode cL_law 489 = .ok (.aload_n 0, 1)) ∧ (decode cL_law 490 = .ok (.iload 4, 2)) ∧ (decode cL_law 492 = .ok (.iconst 1, 1)) ∧ (decode cL_law 493 = .ok (.iadd, 1)) ∧ (decode cL_law 494 = .ok (.iaload, 1)) := by decide +kernel
theorem dL_law_488 : decode cL_law 488 = .ok (.aload_n 1, 1) := gdL_law_488.1
theorem dL_law_489 : decode cL_law 489 = .ok (.aload_n 0, 1) := gdL_law_488.2.1
theorem dL_law_490 : decode cL_law 490 = .ok (.iload 4, 2) := gdL_law_488.2.2.1
theorem dL_law_492 : decode cL_law 492 = .ok (.iconst 1, 1) := gdL_law_488.2.2.2.1
theorem dL_law_493 : decode cL_law 493 = .ok (.iadd, 1) := gdL_law_488.2.2.2.2.1
theorem dL_law_494 : decode cL_law 494 = .ok (.iaload, 1) := gdL_law_488.2.2.2.2.2
theorem gdL_law_495 : (decode cL_law 495 = .ok (.aload_n 0, 1)) ∧ (decode cL_law 496 = .ok (.iload 4, 2)) ∧ (decode cL_law 498 = .ok (.iconst 2, 1)) ∧ (decode cL_law 499 = .ok (.iadd, 1)) ∧ (decode cL_law 500 = .ok (.iaload, 1)) ∧ (decode cL_law 501 = .ok (.aload_n 0, 1)) := by decide +kernel
theorem dL_law_495 : decode cL_law 495 = .ok (.aload_n 0, 1) := gdL_law_495.1
theorem dL_law_496 : decode cL_law 496 = .ok (.iload 4, 2) := gdL_law_495.2.1
theorem dL_law_498 : decode cL_law 498 = .ok (.iconst 2, 1) := gdL_law_495.2.2.1
theorem dL_law_499 : decode cL_law 499 = .ok (.iadd, 1) := gdL_law_495.2.2.2.1
theorem dL_law_500 : decode cL_law 500 = .ok (.iaload, 1) := gdL_law_495.2.2.2.2.1
theorem dL_law_501 : decode cL_law 501 = .ok (.aload_n 0, 1) := gdL_law_495.2.2.2.2.2
theorem gdL_law_502 : (decode cL_law 502 = .ok (.iload 4, 2)) ∧ (decode cL_law 504 = .ok (.iconst 3, 1)) ∧ (decode cL_law 505 = .ok (.iadd, 1)) ∧ (decode cL_law 506 = .ok (.iaload, 1)) ∧ (decode cL_law 507 = .ok (.aload_n 0, 1)) ∧ (decode cL_law 508 = .ok (.iload 4, 2)) := by decide +kernel
theorem dL_law_502 : decode cL_law 502 = .ok (.iload 4, 2) := gdL_law_502.1
theorem dL_law_504 : decode cL_law 504 = .ok (.iconst 3, 1) := gdL_law_502.2.1
theorem dL_law_505 : decode cL_law 505 = .ok (.iadd, 1) := gdL_law_502.2.2.1
theorem dL_law_506 : decode cL_law 506 = .ok (.iaload, 1) := gdL_law_502.2.2.2.1
theorem dL_law_507 : decode cL_law 507 = .ok (.aload_n 0, 1) := gdL_law_502.2.2.2.2.1
theorem dL_law_508 : decode cL_law 508 = .ok (.iload 4, 2) := gdL_law_502.2.2.2.2.2
theorem gdL_law_510 : (decode cL_law 510 = .ok (.iconst 4, 1)) ∧ (decode cL_law 511 = .ok (.iadd, 1)) ∧ (decode cL_law 512 = .ok (.iaload, 1)) ∧ (decode cL_law 513 = .ok (.aload_n 3, 1)) ∧ (decode cL_law 514 = .ok (.invokestatic 175, 3)) ∧ (decode cL_law 517 = .ok (.istore 5, 2)) := by decide +kernel
theorem dL_law_510 : decode cL_law 510 = .ok (.iconst 4, 1) := gdL_law_510.1
theorem dL_law_511 : decode cL_law 511 = .ok (.iadd, 1) := gdL_law_510.2.1
theorem dL_law_512 : decode cL_law 512 = .ok (.iaload, 1) := gdL_law_510.2.2.1
theorem dL_law_513 : decode cL_law 513 = .ok (.aload_n 3, 1) := gdL_law_510.2.2.2.1
theorem dL_law_514 : decode cL_law 514 = .ok (.invokestatic 175, 3) := gdL_law_510.2.2.2.2.1
theorem dL_law_517 : decode cL_law 517 = .ok (.istore 5, 2) := gdL_law_510.2.2.2.2.2
theorem gdL_law_519 : (decode cL_law 519 = .ok (.aload_n 2, 1)) ∧ (decode cL_law 520 = .ok (.aload_n 0, 1)) ∧ (decode cL_law 521 = .ok (.iload 4, 2)) ∧ (decode cL_law 523 = .ok (.iconst 1, 1)) ∧ (decode cL_law 524 = .ok (.iadd, 1)) ∧ (decode cL_law 525 = .ok (.iaload, 1)) := by decide +kernel
theorem dL_law_519 : decode cL_law 519 = .ok (.aload_n 2, 1) := gdL_law_519.1
theorem dL_law_520 : decode cL_law 520 = .ok (.aload_n 0, 1) := gdL_law_519.2.1
theorem dL_law_521 : decode cL_law 521 = .ok (.iload 4, 2) := gdL_law_519.2.2.1
theorem dL_law_523 : decode cL_law 523 = .ok (.iconst 1, 1) := gdL_law_519.2.2.2.1
theorem dL_law_524 : decode cL_law 524 = .ok (.iadd, 1) := gdL_law_519.2.2.2.2.1
theorem dL_law_525 : decode cL_law 525 = .ok (.iaload, 1) := gdL_law_519.2.2.2.2.2
theorem gdL_law_526 : (decode cL_law 526 = .ok (.aload_n 0, 1)) ∧ (decode cL_law 527 = .ok (.iload 4, 2)) ∧ (decode cL_law 529 = .ok (.iconst 2, 1)) ∧ (decode cL_law 530 = .ok (.iadd, 1)) ∧ (decode cL_law 531 = .ok (.iaload, 1)) ∧ (decode cL_law 532 = .ok (.aload_n 0, 1)) := by decide +kernel
theorem dL_law_526 : decode cL_law 526 = .ok (.aload_n 0, 1) := gdL_law_526.1
theorem dL_law_527 : decode cL_law 527 = .ok (.iload 4, 2) := gdL_law_526.2.1
theorem dL_law_529 : decode cL_law 529 = .ok (.iconst 2, 1) := gdL_law_526.2.2.1
theorem dL_law_530 : decode cL_law 530 = .ok (.iadd, 1) := gdL_law_526.2.2.2.1
theorem dL_law_531 : decode cL_law 531 = .ok (.iaload, 1) := gdL_law_526.2.2.2.2.1
theorem dL_law_532 : decode cL_law 532 = .ok (.aload_n 0, 1) := gdL_law_526.2.2.2.2.2
theorem gdL_law_533 : (decode cL_law 533 = .ok (.iload 4, 2)) ∧ (decode cL_law 535 = .ok (.iconst 3, 1)) ∧ (decode cL_law 536 = .ok (.iadd, 1)) ∧ (decode cL_law 537 = .ok (.iaload, 1)) ∧ (decode cL_law 538 = .ok (.aload_n 0, 1)) ∧ (decode cL_law 539 = .ok (.iload 4, 2)) := by decide +kernel
theorem dL_law_533 : decode cL_law 533 = .ok (.iload 4, 2) := gdL_law_533.1
theorem dL_law_535 : decode cL_law 535 = .ok (.iconst 3, 1) := gdL_law_533.2.1
theorem dL_law_536 : decode cL_law 536 = .ok (.iadd, 1) := gdL_law_533.2.2.1
theorem dL_law_537 : decode cL_law 537 = .ok (.iaload, 1) := gdL_law_533.2.2.2.1
theorem dL_law_538 : decode cL_law 538 = .ok (.aload_n 0, 1) := gdL_law_533.2.2.2.2.1
theorem dL_law_539 : decode cL_law 539 = .ok (.iload 4, 2) := gdL_law_533.2.2.2.2.2
theorem gdL_law_541 : (decode cL_law 541 = .ok (.iconst 4, 1)) ∧ (decode cL_law 542 = .ok (.iadd, 1)) ∧ (decode cL_law 543 = .ok (.iaload, 1)) ∧ (decode cL_law 544 = .ok (.invokevirtual 177, 3)) ∧ (decode cL_law 547 = .ok (.istore 6, 2)) ∧ (decode cL_law 549 = .ok (.goto 1535, 3)) := by decide +kernel
theorem dL_law_541 : decode cL_law 541 = .ok (.iconst 4, 1) := gdL_law_541.1
theorem dL_law_542 : decode cL_law 542 = .ok (.iadd, 1) := gdL_law_541.2.1
theorem dL_law_543 : decode cL_law 543 = .ok (.iaload, 1) := gdL_law_541.2.2.1
theorem dL_law_544 : decode cL_law 544 = .ok (.invokevirtual 177, 3) := gdL_law_541.2.2.2.1
theorem dL_law_547 : decode cL_law 547 = .ok (.istore 6, 2) := gdL_law_541.2.2.2.2.1
theorem dL_law_549 : decode cL_law 549 = .ok (.goto 1535, 3) := gdL_law_541.2.2.2.2.2
theorem gdL_law_552 : (decode cL_law 552 = .ok (.aload_n 1, 1)) ∧ (decode cL_law 553 = .ok (.aload_n 0, 1)) ∧ (decode cL_law 554 = .ok (.iload 4, 2)) ∧ (decode cL_law 556 = .ok (.iconst 1, 1)) ∧ (decode cL_law 557 = .ok (.iadd, 1)) ∧ (decode cL_law 558 = .ok (.iaload, 1)) := by decide +kernel
theorem dL_law_552 : decode cL_law 552 = .ok (.aload_n 1, 1) := gdL_law_552.1
theorem dL_law_553 : decode cL_law 553 = .ok (.aload_n 0, 1) := gdL_law_552.2.1
theorem dL_law_554 : decode cL_law 554 = .ok (.iload 4, 2) := gdL_law_552.2.2.1
theorem dL_law_556 : decode cL_law 556 = .ok (.iconst 1, 1) := gdL_law_552.2.2.2.1
theorem dL_law_557 : decode cL_law 557 = .ok (.iadd, 1) := gdL_law_552.2.2.2.2.1
theorem dL_law_558 : decode cL_law 558 = .ok (.iaload, 1) := gdL_law_552.2.2.2.2.2
theorem gdL_law_559 : (decode cL_law 559 = .ok (.aload_n 0, 1)) ∧ (decode cL_law 560 = .ok (.iload 4, 2)) ∧ (decode cL_law 562 = .ok (.iconst 2, 1)) ∧ (decode cL_law 563 = .ok (.iadd, 1)) ∧ (decode cL_law 564 = .ok (.iaload, 1)) ∧ (decode cL_law 565 = .ok (.aload_n 0, 1)) := by decide +kernel
theorem dL_law_559 : decode cL_law 559 = .ok (.aload_n 0, 1) := gdL_law_559.1
theorem dL_law_560 : decode cL_law 560 = .ok (.iload 4, 2) := gdL_law_559.2.1
theorem dL_law_562 : decode cL_law 562 = .ok (.iconst 2, 1) := gdL_law_559.2.2.1
theorem dL_law_563 : decode cL_law 563 = .ok (.iadd, 1) := gdL_law_559.2.2.2.1
theorem dL_law_564 : decode cL_law 564 = .ok (.iaload, 1) := gdL_law_559.2.2.2.2.1
theorem dL_law_565 : decode cL_law 565 = .ok (.aload_n 0, 1) := gdL_law_559.2.2.2.2.2
theorem gdL_law_566 : (decode cL_law 566 = .ok (.iload 4, 2)) ∧ (decode cL_law 568 = .ok (.iconst 3, 1)) ∧ (decode cL_law 569 = .ok (.iadd, 1)) ∧ (decode cL_law 570 = .ok (.iaload, 1)) ∧ (decode cL_law 571 = .ok (.aload_n 0, 1)) ∧ (decode cL_law 572 = .ok (.iload 4, 2)) := by decide +kernel
theorem dL_law_566 : decode cL_law 566 = .ok (.iload 4, 2) := gdL_law_566.1
theorem dL_law_568 : decode cL_law 568 = .ok (.iconst 3, 1) := gdL_law_566.2.1
theorem dL_law_569 : decode cL_law 569 = .ok (.iadd, 1) := gdL_law_566.2.2.1
theorem dL_law_570 : decode cL_law 570 = .ok (.iaload, 1) := gdL_law_566.2.2.2.1
theorem dL_law_571 : decode cL_law 571 = .ok (.aload_n 0, 1) := gdL_law_566.2.2.2.2.1
theorem dL_law_572 : decode cL_law 572 = .ok (.iload 4, 2) := gdL_law_566.2.2.2.2.2
theorem gdL_law_574 : (decode cL_law 574 = .ok (.iconst 4, 1)) ∧ (decode cL_law 575 = .ok (.iadd, 1)) ∧ (decode cL_law 576 = .ok (.iaload, 1)) ∧ (decode cL_law 577 = .ok (.aload_n 3, 1)) ∧ (decode cL_law 578 = .ok (.invokestatic 178, 3)) ∧ (decode cL_law 581 = .ok (.istore 5, 2)) := by decide +kernel
theorem dL_law_574 : decode cL_law 574 = .ok (.iconst 4, 1) := gdL_law_574.1
theorem dL_law_575 : decode cL_law 575 = .ok (.iadd, 1) := gdL_law_574.2.1
theorem dL_law_576 : decode cL_law 576 = .ok (.iaload, 1) := gdL_law_574.2.2.1
theorem dL_law_577 : decode cL_law 577 = .ok (.aload_n 3, 1) := gdL_law_574.2.2.2.1
theorem dL_law_578 : decode cL_law 578 = .ok (.invokestatic 178, 3) := gdL_law_574.2.2.2.2.1
theorem dL_law_581 : decode cL_law 581 = .ok (.istore 5, 2) := gdL_law_574.2.2.2.2.2
theorem gdL_law_583 : (decode cL_law 583 = .ok (.aload_n 2, 1)) ∧ (decode cL_law 584 = .ok (.aload_n 0, 1)) ∧ (decode cL_law 585 = .ok (.iload 4, 2)) ∧ (decode cL_law 587 = .ok (.iconst 1, 1)) ∧ (decode cL_law 588 = .ok (.iadd, 1)) ∧ (decode cL_law 589 = .ok (.iaload, 1)) := by decide +kernel
theorem dL_law_583 : decode cL_law 583 = .ok (.aload_n 2, 1) := gdL_law_583.1
theorem dL_law_584 : decode cL_law 584 = .ok (.aload_n 0, 1) := gdL_law_583.2.1
theorem dL_law_585 : decode cL_law 585 = .ok (.iload 4, 2) := gdL_law_583.2.2.1
theorem dL_law_587 : decode cL_law 587 = .ok (.iconst 1, 1) := gdL_law_583.2.2.2.1
theorem dL_law_588 : decode cL_law 588 = .ok (.iadd, 1) := gdL_law_583.2.2.2.2.1
theorem dL_law_589 : decode cL_law 589 = .ok (.iaload, 1) := gdL_law_583.2.2.2.2.2
theorem gdL_law_590 : (decode cL_law 590 = .ok (.aload_n 0, 1)) ∧ (decode cL_law 591 = .ok (.iload 4, 2)) ∧ (decode cL_law 593 = .ok (.iconst 2, 1)) ∧ (decode cL_law 594 = .ok (.iadd, 1)) ∧ (decode cL_law 595 = .ok (.iaload, 1)) ∧ (decode cL_law 596 = .ok (.aload_n 0, 1)) := by decide +kernel
theorem dL_law_590 : decode cL_law 590 = .ok (.aload_n 0, 1) := gdL_law_590.1
theorem dL_law_591 : decode cL_law 591 = .ok (.iload 4, 2) := gdL_law_590.2.1
theorem dL_law_593 : decode cL_law 593 = .ok (.iconst 2, 1) := gdL_law_590.2.2.1
theorem dL_law_594 : decode cL_law 594 = .ok (.iadd, 1) := gdL_law_590.2.2.2.1
theorem dL_law_595 : decode cL_law 595 = .ok (.iaload, 1) := gdL_law_590.2.2.2.2.1
theorem dL_law_596 : decode cL_law 596 = .ok (.aload_n 0, 1) := gdL_law_590.2.2.2.2.2
theorem gdL_law_597 : (decode cL_law 597 = .ok (.iload 4, 2)) ∧ (decode cL_law 599 = .ok (.iconst 3, 1)) ∧ (decode cL_law 600 = .ok (.iadd, 1)) ∧ (decode cL_law 601 = .ok (.iaload, 1)) ∧ (decode cL_law 602 = .ok (.aload_n 0, 1)) ∧ (decode cL_law 603 = .ok (.iload 4, 2)) := by decide +kernel
theorem dL_law_597 : decode cL_law 597 = .ok (.iload 4, 2) := gdL_law_597.1
theorem dL_law_599 : decode cL_law 599 = .ok (.iconst 3, 1) := gdL_law_597.2.1
theorem dL_law_600 : decode cL_law 600 = .ok (.iadd, 1) := gdL_law_597.2.2.1
theorem dL_law_601 : decode cL_law 601 = .ok (.iaload, 1) := gdL_law_597.2.2.2.1
theorem dL_law_602 : decode cL_law 602 = .ok (.aload_n 0, 1) := gdL_law_597.2.2.2.2.1
theorem dL_law_603 : decode cL_law 603 = .ok (.iload 4, 2) := gdL_law_597.2.2.2.2.2
theorem gdL_law_605 : (decode cL_law 605 = .ok (.iconst 4, 1)) ∧ (decode cL_law 606 = .ok (.iadd, 1)) ∧ (decode cL_law 607 = .ok (.iaload, 1)) ∧ (decode cL_law 608 = .ok (.invokevirtual 180, 3)) ∧ (decode cL_law 611 = .ok (.istore 6, 2)) ∧ (decode cL_law 613 = .ok (.goto 1471, 3)) := by decide +kernel
theorem dL_law_605 : decode cL_law 605 = .ok (.iconst 4, 1) := gdL_law_605.1
theorem dL_law_606 : decode cL_law 606 = .ok (.iadd, 1) := gdL_law_605.2.1
theorem dL_law_607 : decode cL_law 607 = .ok (.iaload, 1) := gdL_law_605.2.2.1
theorem dL_law_608 : decode cL_law 608 = .ok (.invokevirtual 180, 3) := gdL_law_605.2.2.2.1
theorem dL_law_611 : decode cL_law 611 = .ok (.istore 6, 2) := gdL_law_605.2.2.2.2.1
theorem dL_law_613 : decode cL_law 613 = .ok (.goto 1471, 3) := gdL_law_605.2.2.2.2.2
theorem gdL_law_616 : (decode cL_law 616 = .ok (.aload_n 1, 1)) ∧ (decode cL_law 617 = .ok (.aload_n 0, 1)) ∧ (decode cL_law 618 = .ok (.iload 4, 2)) ∧ (decode cL_law 620 = .ok (.iconst 1, 1)) ∧ (decode cL_law 621 = .ok (.iadd, 1)) ∧ (decode cL_law 622 = .ok (.iaload, 1)) := by decide +kernel
theorem dL_law_616 : decode cL_law 616 = .ok (.aload_n 1, 1) := gdL_law_616.1
theorem dL_law_617 : decode cL_law 617 = .ok (.aload_n 0, 1) := gdL_law_616.2.1
theorem dL_law_618 : decode cL_law 618 = .ok (.iload 4, 2) := gdL_law_616.2.2.1
theorem dL_law_620 : decode cL_law 620 = .ok (.iconst 1, 1) := gdL_law_616.2.2.2.1
theorem dL_law_621 : decode cL_law 621 = .ok (.iadd, 1) := gdL_law_616.2.2.2.2.1
theorem dL_law_622 : decode cL_law 622 = .ok (.iaload, 1) := gdL_law_616.2.2.2.2.2
theorem gdL_law_623 : (decode cL_law 623 = .ok (.aload_n 0, 1)) ∧ (decode cL_law 624 = .ok (.iload 4, 2)) ∧ (decode cL_law 626 = .ok (.iconst 2, 1)) ∧ (decode cL_law 627 = .ok (.iadd, 1)) ∧ (decode cL_law 628 = .ok (.iaload, 1)) ∧ (decode cL_law 629 = .ok (.aload_n 0, 1)) := by decide +kernel
theorem dL_law_623 : decode cL_law 623 = .ok (.aload_n 0, 1) := gdL_law_623.1
theorem dL_law_624 : decode cL_law 624 = .ok (.iload 4, 2) := gdL_law_623.2.1
theorem dL_law_626 : decode cL_law 626 = .ok (.iconst 2, 1) := gdL_law_623.2.2.1
theorem dL_law_627 : decode cL_law 627 = .ok (.iadd, 1) := gdL_law_623.2.2.2.1
theorem dL_law_628 : decode cL_law 628 = .ok (.iaload, 1) := gdL_law_623.2.2.2.2.1
theorem dL_law_629 : decode cL_law 629 = .ok (.aload_n 0, 1) := gdL_law_623.2.2.2.2.2
theorem gdL_law_630 : (decode cL_law 630 = .ok (.iload 4, 2)) ∧ (decode cL_law 632 = .ok (.iconst 3, 1)) ∧ (decode cL_law 633 = .ok (.iadd, 1)) ∧ (decode cL_law 634 = .ok (.iaload, 1)) ∧ (decode cL_law 635 = .ok (.aload_n 0, 1)) ∧ (decode cL_law 636 = .ok (.iload 4, 2)) := by decide +kernel
theorem dL_law_630 : decode cL_law 630 = .ok (.iload 4, 2) := gdL_law_630.1
theorem dL_law_632 : decode cL_law 632 = .ok (.iconst 3, 1) := gdL_law_630.2.1
theorem dL_law_633 : decode cL_law 633 = .ok (.iadd, 1) := gdL_law_630.2.2.1
theorem dL_law_634 : decode cL_law 634 = .ok (.iaload, 1) := gdL_law_630.2.2.2.1
theorem dL_law_635 : decode cL_law 635 = .ok (.aload_n 0, 1) := gdL_law_630.2.2.2.2.1
theorem dL_law_636 : decode cL_law 636 = .ok (.iload 4, 2) := gdL_law_630.2.2.2.2.2
theorem gdL_law_638 : (decode cL_law 638 = .ok (.iconst 4, 1)) ∧ (decode cL_law 639 = .ok (.iadd, 1)) ∧ (decode cL_law 640 = .ok (.iaload, 1)) ∧ (decode cL_law 641 = .ok (.aload_n 0, 1)) ∧ (decode cL_law 642 = .ok (.iload 4, 2)) ∧ (decode cL_law 644 = .ok (.iconst 5, 1)) := by decide +kernel
theorem dL_law_638 : decode cL_law 638 = .ok (.iconst 4, 1) := gdL_law_638.1
theorem dL_law_639 : decode cL_law 639 = .ok (.iadd, 1) := gdL_law_638.2.1
theorem dL_law_640 : decode cL_law 640 = .ok (.iaload, 1) := gdL_law_638.2.2.1
theorem dL_law_641 : decode cL_law 641 = .ok (.aload_n 0, 1) := gdL_law_638.2.2.2.1
theorem dL_law_642 : decode cL_law 642 = .ok (.iload 4, 2) := gdL_law_638.2.2.2.2.1
theorem dL_law_644 : decode cL_law 644 = .ok (.iconst 5, 1) := gdL_law_638.2.2.2.2.2
theorem gdL_law_645 : (decode cL_law 645 = .ok (.iadd, 1)) ∧ (decode cL_law 646 = .ok (.iaload, 1)) ∧ (decode cL_law 647 = .ok (.aload_n 3, 1)) ∧ (decode cL_law 648 = .ok (.invokestatic 181, 3)) ∧ (decode cL_law 651 = .ok (.istore 5, 2)) ∧ (decode cL_law 653 = .ok (.aload_n 2, 1)) := by decide +kernel
theorem dL_law_645 : decode cL_law 645 = .ok (.iadd, 1) := gdL_law_645.1
theorem dL_law_646 : decode cL_law 646 = .ok (.iaload, 1) := gdL_law_645.2.1
theorem dL_law_647 : decode cL_law 647 = .ok (.aload_n 3, 1) := gdL_law_645.2.2.1
theorem dL_law_648 : decode cL_law 648 = .ok (.invokestatic 181, 3) := gdL_law_645.2.2.2.1
theorem dL_law_651 : decode cL_law 651 = .ok (.istore 5, 2) := gdL_law_645.2.2.2.2.1
theorem dL_law_653 : decode cL_law 653 = .ok (.aload_n 2, 1) := gdL_law_645.2.2.2.2.2
theorem gdL_law_654 : (decode cL_law 654 = .ok (.aload_n 0, 1)) ∧ (decode cL_law 655 = .ok (.iload 4, 2)) ∧ (decode cL_law 657 = .ok (.iconst 1, 1)) ∧ (decode cL_law 658 = .ok (.iadd, 1)) ∧ (decode cL_law 659 = .ok (.iaload, 1)) ∧ (decode cL_law 660 = .ok (.aload_n 0, 1)) := by decide +kernel
theorem dL_law_654 : decode cL_law 654 = .ok (.aload_n 0, 1) := gdL_law_654.1
theorem dL_law_655 : decode cL_law 655 = .ok (.iload 4, 2) := gdL_law_654.2.1
theorem dL_law_657 : decode cL_law 657 = .ok (.iconst 1, 1) := gdL_law_654.2.2.1
theorem dL_law_658 : decode cL_law 658 = .ok (.iadd, 1) := gdL_law_654.2.2.2.1
theorem dL_law_659 : decode cL_law 659 = .ok (.iaload, 1) := gdL_law_654.2.2.2.2.1
theorem dL_law_660 : decode cL_law 660 = .ok (.aload_n 0, 1) := gdL_law_654.2.2.2.2.2
theorem gdL_law_661 : (decode cL_law 661 = .ok (.iload 4, 2)) ∧ (decode cL_law 663 = .ok (.iconst 2, 1)) ∧ (decode cL_law 664 = .ok (.iadd, 1)) ∧ (decode cL_law 665 = .ok (.iaload, 1)) ∧ (decode cL_law 666 = .ok (.aload_n 0, 1)) ∧ (decode cL_law 667 = .ok (.iload 4, 2)) := by decide +kernel
theorem dL_law_661 : decode cL_law 661 = .ok (.iload 4, 2) := gdL_law_661.1
theorem dL_law_663 : decode cL_law 663 = .ok (.iconst 2, 1) := gdL_law_661.2.1
theorem dL_law_664 : decode cL_law 664 = .ok (.iadd, 1) := gdL_law_661.2.2.1
theorem dL_law_665 : decode cL_law 665 = .ok (.iaload, 1) := gdL_law_661.2.2.2.1
theorem dL_law_666 : decode cL_law 666 = .ok (.aload_n 0, 1) := gdL_law_661.2.2.2.2.1
theorem dL_law_667 : decode cL_law 667 = .ok (.iload 4, 2) := gdL_law_661.2.2.2.2.2
theorem gdL_law_669 : (decode cL_law 669 = .ok (.iconst 3, 1)) ∧ (decode cL_law 670 = .ok (.iadd, 1)) ∧ (decode cL_law 671 = .ok (.iaload, 1)) ∧ (decode cL_law 672 = .ok (.aload_n 0, 1)) ∧ (decode cL_law 673 = .ok (.iload 4, 2)) ∧ (decode cL_law 675 = .ok (.iconst 4, 1)) := by decide +kernel
theorem dL_law_669 : decode cL_law 669 = .ok (.iconst 3, 1) := gdL_law_669.1
theorem dL_law_670 : decode cL_law 670 = .ok (.iadd, 1) := gdL_law_669.2.1
theorem dL_law_671 : decode cL_law 671 = .ok (.iaload, 1) := gdL_law_669.2.2.1
theorem dL_law_672 : decode cL_law 672 = .ok (.aload_n 0, 1) := gdL_law_669.2.2.2.1
theorem dL_law_673 : decode cL_law 673 = .ok (.iload 4, 2) := gdL_law_669.2.2.2.2.1
theorem dL_law_675 : decode cL_law 675 = .ok (.iconst 4, 1) := gdL_law_669.2.2.2.2.2
theorem gdL_law_676 : (decode cL_law 676 = .ok (.iadd, 1)) ∧ (decode cL_law 677 = .ok (.iaload, 1)) ∧ (decode cL_law 678 = .ok (.aload_n 0, 1)) ∧ (decode cL_law 679 = .ok (.iload 4, 2)) ∧ (decode cL_law 681 = .ok (.iconst 5, 1)) ∧ (decode cL_law 682 = .ok (.iadd, 1)) := by decide +kernel
theorem dL_law_676 : decode cL_law 676 = .ok (.iadd, 1) := gdL_law_676.1
theorem dL_law_677 : decode cL_law 677 = .ok (.iaload, 1) := gdL_law_676.2.1
theorem dL_law_678 : decode cL_law 678 = .ok (.aload_n 0, 1) := gdL_law_676.2.2.1
theorem dL_law_679 : decode cL_law 679 = .ok (.iload 4, 2) := gdL_law_676.2.2.2.1
theorem dL_law_681 : decode cL_law 681 = .ok (.iconst 5, 1) := gdL_law_676.2.2.2.2.1
theorem dL_law_682 : decode cL_law 682 = .ok (.iadd, 1) := gdL_law_676.2.2.2.2.2
theorem gdL_law_683 : (decode cL_law 683 = .ok (.iaload, 1)) ∧ (decode cL_law 684 = .ok (.invokevirtual 184, 3)) ∧ (decode cL_law 687 = .ok (.istore 6, 2)) ∧ (decode cL_law 689 = .ok (.goto 1395, 3)) ∧ (decode cL_law 692 = .ok (.aload_n 1, 1)) ∧ (decode cL_law 693 = .ok (.aload_n 0, 1)) := by decide +kernel
theorem dL_law_683 : decode cL_law 683 = .ok (.iaload, 1) := gdL_law_683.1
theorem dL_law_684 : decode cL_law 684 = .ok (.invokevirtual 184, 3) := gdL_law_683.2.1
theorem dL_law_687 : decode cL_law 687 = .ok (.istore 6, 2) := gdL_law_683.2.2.1
theorem dL_law_689 : decode cL_law 689 = .ok (.goto 1395, 3) := gdL_law_683.2.2.2.1
theorem dL_law_692 : decode cL_law 692 = .ok (.aload_n 1, 1) := gdL_law_683.2.2.2.2.1
theorem dL_law_693 : decode cL_law 693 = .ok (.aload_n 0, 1) := gdL_law_683.2.2.2.2.2
theorem gdL_law_694 : (decode cL_law 694 = .ok (.iload 4, 2)) ∧ (decode cL_law 696 = .ok (.iconst 1, 1)) ∧ (decode cL_law 697 = .ok (.iadd, 1)) ∧ (decode cL_law 698 = .ok (.iaload, 1)) ∧ (decode cL_law 699 = .ok (.aload_n 0, 1)) ∧ (decode cL_law 700 = .ok (.iload 4, 2)) := by decide +kernel
theorem dL_law_694 : decode cL_law 694 = .ok (.iload 4, 2) := gdL_law_694.1
theorem dL_law_696 : decode cL_law 696 = .ok (.iconst 1, 1) := gdL_law_694.2.1
theorem dL_law_697 : decode cL_law 697 = .ok (.iadd, 1) := gdL_law_694.2.2.1
theorem dL_law_698 : decode cL_law 698 = .ok (.iaload, 1) := gdL_law_694.2.2.2.1
theorem dL_law_699 : decode cL_law 699 = .ok (.aload_n 0, 1) := gdL_law_694.2.2.2.2.1
theorem dL_law_700 : decode cL_law 700 = .ok (.iload 4, 2) := gdL_law_694.2.2.2.2.2
theorem gdL_law_702 : (decode cL_law 702 = .ok (.iconst 2, 1)) ∧ (decode cL_law 703 = .ok (.iadd, 1)) ∧ (decode cL_law 704 = .ok (.iaload, 1)) ∧ (decode cL_law 705 = .ok (.aload_n 0, 1)) ∧ (decode cL_law 706 = .ok (.iload 4, 2)) ∧ (decode cL_law 708 = .ok (.iconst 3, 1)) := by decide +kernel
theorem dL_law_702 : decode cL_law 702 = .ok (.iconst 2, 1) := gdL_law_702.1
theorem dL_law_703 : decode cL_law 703 = .ok (.iadd, 1) := gdL_law_702.2.1
theorem dL_law_704 : decode cL_law 704 = .ok (.iaload, 1) := gdL_law_702.2.2.1
theorem dL_law_705 : decode cL_law 705 = .ok (.aload_n 0, 1) := gdL_law_702.2.2.2.1
theorem dL_law_706 : decode cL_law 706 = .ok (.iload 4, 2) := gdL_law_702.2.2.2.2.1
theorem dL_law_708 : decode cL_law 708 = .ok (.iconst 3, 1) := gdL_law_702.2.2.2.2.2
theorem gdL_law_709 : (decode cL_law 709 = .ok (.iadd, 1)) ∧ (decode cL_law 710 = .ok (.iaload, 1)) ∧ (decode cL_law 711 = .ok (.aload_n 3, 1)) ∧ (decode cL_law 712 = .ok (.invokestatic 185, 3)) ∧ (decode cL_law 715 = .ok (.istore 5, 2)) ∧ (decode cL_law 717 = .ok (.aload_n 2, 1)) := by decide +kernel
theorem dL_law_709 : decode cL_law 709 = .ok (.iadd, 1) := gdL_law_709.1
theorem dL_law_710 : decode cL_law 710 = .ok (.iaload, 1) := gdL_law_709.2.1
theorem dL_law_711 : decode cL_law 711 = .ok (.aload_n 3, 1) := gdL_law_709.2.2.1
theorem dL_law_712 : decode cL_law 712 = .ok (.invokestatic 185, 3) := gdL_law_709.2.2.2.1
theorem dL_law_715 : decode cL_law 715 = .ok (.istore 5, 2) := gdL_law_709.2.2.2.2.1
theorem dL_law_717 : decode cL_law 717 = .ok (.aload_n 2, 1) := gdL_law_709.2.2.2.2.2
theorem gdL_law_718 : (decode cL_law 718 = .ok (.aload_n 0, 1)) ∧ (decode cL_law 719 = .ok (.iload 4, 2)) ∧ (decode cL_law 721 = .ok (.iconst 1, 1)) ∧ (decode cL_law 722 = .ok (.iadd, 1)) ∧ (decode cL_law 723 = .ok (.iaload, 1)) ∧ (decode cL_law 724 = .ok (.aload_n 0, 1)) := by decide +kernel
theorem dL_law_718 : decode cL_law 718 = .ok (.aload_n 0, 1) := gdL_law_718.1
theorem dL_law_719 : decode cL_law 719 = .ok (.iload 4, 2) := gdL_law_718.2.1
theorem dL_law_721 : decode cL_law 721 = .ok (.iconst 1, 1) := gdL_law_718.2.2.1
theorem dL_law_722 : decode cL_law 722 = .ok (.iadd, 1) := gdL_law_718.2.2.2.1
theorem dL_law_723 : decode cL_law 723 = .ok (.iaload, 1) := gdL_law_718.2.2.2.2.1
theorem dL_law_724 : decode cL_law 724 = .ok (.aload_n 0, 1) := gdL_law_718.2.2.2.2.2
theorem gdL_law_725 : (decode cL_law 725 = .ok (.iload 4, 2)) ∧ (decode cL_law 727 = .ok (.iconst 2, 1)) ∧ (decode cL_law 728 = .ok (.iadd, 1)) ∧ (decode cL_law 729 = .ok (.iaload, 1)) ∧ (decode cL_law 730 = .ok (.aload_n 0, 1)) ∧ (decode cL_law 731 = .ok (.iload 4, 2)) := by decide +kernel
theorem dL_law_725 : decode cL_law 725 = .ok (.iload 4, 2) := gdL_law_725.1
theorem dL_law_727 : decode cL_law 727 = .ok (.iconst 2, 1) := gdL_law_725.2.1
theorem dL_law_728 : decode cL_law 728 = .ok (.iadd, 1) := gdL_law_725.2.2.1
theorem dL_law_729 : decode cL_law 729 = .ok (.iaload, 1) := gdL_law_725.2.2.2.1
theorem dL_law_730 : decode cL_law 730 = .ok (.aload_n 0, 1) := gdL_law_725.2.2.2.2.1
theorem dL_law_731 : decode cL_law 731 = .ok (.iload 4, 2) := gdL_law_725.2.2.2.2.2
theorem gdL_law_733 : (decode cL_law 733 = .ok (.iconst 3, 1)) ∧ (decode cL_law 734 = .ok (.iadd, 1)) ∧ (decode cL_law 735 = .ok (.iaload, 1)) ∧ (decode cL_law 736 = .ok (.invokevirtual 187, 3)) ∧ (decode cL_law 739 = .ok (.istore 6, 2)) ∧ (decode cL_law 741 = .ok (.goto 1343, 3)) := by decide +kernel
theorem dL_law_733 : decode cL_law 733 = .ok (.iconst 3, 1) := gdL_law_733.1
theorem dL_law_734 : decode cL_law 734 = .ok (.iadd, 1) := gdL_law_733.2.1
theorem dL_law_735 : decode cL_law 735 = .ok (.iaload, 1) := gdL_law_733.2.2.1
theorem dL_law_736 : decode cL_law 736 = .ok (.invokevirtual 187, 3) := gdL_law_733.2.2.2.1
theorem dL_law_739 : decode cL_law 739 = .ok (.istore 6, 2) := gdL_law_733.2.2.2.2.1
theorem dL_law_741 : decode cL_law 741 = .ok (.goto 1343, 3) := gdL_law_733.2.2.2.2.2
theorem gdL_law_744 : (decode cL_law 744 = .ok (.aload_n 1, 1)) ∧ (decode cL_law 745 = .ok (.aload_n 0, 1)) ∧ (decode cL_law 746 = .ok (.iload 4, 2)) ∧ (decode cL_law 748 = .ok (.iconst 1, 1)) ∧ (decode cL_law 749 = .ok (.iadd, 1)) ∧ (decode cL_law 750 = .ok (.iaload, 1)) := by decide +kernel
theorem dL_law_744 : decode cL_law 744 = .ok (.aload_n 1, 1) := gdL_law_744.1
theorem dL_law_745 : decode cL_law 745 = .ok (.aload_n 0, 1) := gdL_law_744.2.1
theorem dL_law_746 : decode cL_law 746 = .ok (.iload 4, 2) := gdL_law_744.2.2.1
theorem dL_law_748 : decode cL_law 748 = .ok (.iconst 1, 1) := gdL_law_744.2.2.2.1
theorem dL_law_749 : decode cL_law 749 = .ok (.iadd, 1) := gdL_law_744.2.2.2.2.1
theorem dL_law_750 : decode cL_law 750 = .ok (.iaload, 1) := gdL_law_744.2.2.2.2.2
theorem gdL_law_751 : (decode cL_law 751 = .ok (.aload_n 3, 1)) ∧ (decode cL_law 752 = .ok (.invokestatic 188, 3)) ∧ (decode cL_law 755 = .ok (.istore 5, 2)) ∧ (decode cL_law 757 = .ok (.aload_n 2, 1)) ∧ (decode cL_law 758 = .ok (.aload_n 0, 1)) ∧ (decode cL_law 759 = .ok (.iload 4, 2)) := by decide +kernel
theorem dL_law_751 : decode cL_law 751 = .ok (.aload_n 3, 1) := gdL_law_751.1
theorem dL_law_752 : decode cL_law 752 = .ok (.invokestatic 188, 3) := gdL_law_751.2.1
theorem dL_law_755 : decode cL_law 755 = .ok (.istore 5, 2) := gdL_law_751.2.2.1
theorem dL_law_757 : decode cL_law 757 = .ok (.aload_n 2, 1) := gdL_law_751.2.2.2.1
theorem dL_law_758 : decode cL_law 758 = .ok (.aload_n 0, 1) := gdL_law_751.2.2.2.2.1
theorem dL_law_759 : decode cL_law 759 = .ok (.iload 4, 2) := gdL_law_751.2.2.2.2.2
theorem gdL_law_761 : (decode cL_law 761 = .ok (.iconst 1, 1)) ∧ (decode cL_law 762 = .ok (.iadd, 1)) ∧ (decode cL_law 763 = .ok (.iaload, 1)) ∧ (decode cL_law 764 = .ok (.invokevirtual 191, 3)) ∧ (decode cL_law 767 = .ok (.istore 6, 2)) ∧ (decode cL_law 769 = .ok (.goto 1315, 3)) := by decide +kernel
theorem dL_law_761 : decode cL_law 761 = .ok (.iconst 1, 1) := gdL_law_761.1
theorem dL_law_762 : decode cL_law 762 = .ok (.iadd, 1) := gdL_law_761.2.1
theorem dL_law_763 : decode cL_law 763 = .ok (.iaload, 1) := gdL_law_761.2.2.1
theorem dL_law_764 : decode cL_law 764 = .ok (.invokevirtual 191, 3) := gdL_law_761.2.2.2.1
theorem dL_law_767 : decode cL_law 767 = .ok (.istore 6, 2) := gdL_law_761.2.2.2.2.1
theorem dL_law_769 : decode cL_law 769 = .ok (.goto 1315, 3) := gdL_law_761.2.2.2.2.2
theorem gdL_law_772 : (decode cL_law 772 = .ok (.aload_n 1, 1)) ∧ (decode cL_law 773 = .ok (.aload_n 0, 1)) ∧ (decode cL_law 774 = .ok (.iload 4, 2)) ∧ (decode cL_law 776 = .ok (.iconst 1, 1)) ∧ (decode cL_law 777 = .ok (.iadd, 1)) ∧ (decode cL_law 778 = .ok (.iaload, 1)) := by decide +kernel
theorem dL_law_772 : decode cL_law 772 = .ok (.aload_n 1, 1) := gdL_law_772.1
theorem dL_law_773 : decode cL_law 773 = .ok (.aload_n 0, 1) := gdL_law_772.2.1
theorem dL_law_774 : decode cL_law 774 = .ok (.iload 4, 2) := gdL_law_772.2.2.1
theorem dL_law_776 : decode cL_law 776 = .ok (.iconst 1, 1) := gdL_law_772.2.2.2.1
theorem dL_law_777 : decode cL_law 777 = .ok (.iadd, 1) := gdL_law_772.2.2.2.2.1
theorem dL_law_778 : decode cL_law 778 = .ok (.iaload, 1) := gdL_law_772.2.2.2.2.2
theorem gdL_law_779 : (decode cL_law 779 = .ok (.aload_n 0, 1)) ∧ (decode cL_law 780 = .ok (.iload 4, 2)) ∧ (decode cL_law 782 = .ok (.iconst 2, 1)) ∧ (decode cL_law 783 = .ok (.iadd, 1)) ∧ (decode cL_law 784 = .ok (.iaload, 1)) ∧ (decode cL_law 785 = .ok (.aload_n 3, 1)) := by decide +kernel
theorem dL_law_779 : decode cL_law 779 = .ok (.aload_n 0, 1) := gdL_law_779.1
theorem dL_law_780 : decode cL_law 780 = .ok (.iload 4, 2) := gdL_law_779.2.1
theorem dL_law_782 : decode cL_law 782 = .ok (.iconst 2, 1) := gdL_law_779.2.2.1
theorem dL_law_783 : decode cL_law 783 = .ok (.iadd, 1) := gdL_law_779.2.2.2.1
theorem dL_law_784 : decode cL_law 784 = .ok (.iaload, 1) := gdL_law_779.2.2.2.2.1
theorem dL_law_785 : decode cL_law 785 = .ok (.aload_n 3, 1) := gdL_law_779.2.2.2.2.2
theorem gdL_law_786 : (decode cL_law 786 = .ok (.invokestatic 192, 3)) ∧ (decode cL_law 789 = .ok (.istore 5, 2)) ∧ (decode cL_law 791 = .ok (.aload_n 2, 1)) ∧ (decode cL_law 792 = .ok (.aload_n 0, 1)) ∧ (decode cL_law 793 = .ok (.iload 4, 2)) ∧ (decode cL_law 795 = .ok (.iconst 1, 1)) := by decide +kernel
theorem dL_law_786 : decode cL_law 786 = .ok (.invokestatic 192, 3) := gdL_law_786.1
theorem dL_law_789 : decode cL_law 789 = .ok (.istore 5, 2) := gdL_law_786.2.1
theorem dL_law_791 : decode cL_law 791 = .ok (.aload_n 2, 1) := gdL_law_786.2.2.1
theorem dL_law_792 : decode cL_law 792 = .ok (.aload_n 0, 1) := gdL_law_786.2.2.2.1
theorem dL_law_793 : decode cL_law 793 = .ok (.iload 4, 2) := gdL_law_786.2.2.2.2.1
theorem dL_law_795 : decode cL_law 795 = .ok (.iconst 1, 1) := gdL_law_786.2.2.2.2.2
theorem gdL_law_796 : (decode cL_law 796 = .ok (.iadd, 1)) ∧ (decode cL_law 797 = .ok (.iaload, 1)) ∧ (decode cL_law 798 = .ok (.aload_n 0, 1)) ∧ (decode cL_law 799 = .ok (.iload 4, 2)) ∧ (decode cL_law 801 = .ok (.iconst 2, 1)) ∧ (decode cL_law 802 = .ok (.iadd, 1)) := by decide +kernel
theorem dL_law_796 : decode cL_law 796 = .ok (.iadd, 1) := gdL_law_796.1
theorem dL_law_797 : decode cL_law 797 = .ok (.iaload, 1) := gdL_law_796.2.1
theorem dL_law_798 : decode cL_law 798 = .ok (.aload_n 0, 1) := gdL_law_796.2.2.1
theorem dL_law_799 : decode cL_law 799 = .ok (.iload 4, 2) := gdL_law_796.2.2.2.1
theorem dL_law_801 : decode cL_law 801 = .ok (.iconst 2, 1) := gdL_law_796.2.2.2.2.1
theorem dL_law_802 : decode cL_law 802 = .ok (.iadd, 1) := gdL_law_796.2.2.2.2.2
theorem gdL_law_803 : (decode cL_law 803 = .ok (.iaload, 1)) ∧ (decode cL_law 804 = .ok (.invokevirtual 194, 3)) ∧ (decode cL_law 807 = .ok (.istore 6, 2)) ∧ (decode cL_law 809 = .ok (.goto 1275, 3)) ∧ (decode cL_law 812 = .ok (.aload_n 1, 1)) ∧ (decode cL_law 813 = .ok (.aload_n 0, 1)) := by decide +kernel
theorem dL_law_803 : decode cL_law 803 = .ok (.iaload, 1) := gdL_law_803.1
theorem dL_law_804 : decode cL_law 804 = .ok (.invokevirtual 194, 3) := gdL_law_803.2.1
theorem dL_law_807 : decode cL_law 807 = .ok (.istore 6, 2) := gdL_law_803.2.2.1
theorem dL_law_809 : decode cL_law 809 = .ok (.goto 1275, 3) := gdL_law_803.2.2.2.1
theorem dL_law_812 : decode cL_law 812 = .ok (.aload_n 1, 1) := gdL_law_803.2.2.2.2.1
theorem dL_law_813 : decode cL_law 813 = .ok (.aload_n 0, 1) := gdL_law_803.2.2.2.2.2
theorem gdL_law_814 : (decode cL_law 814 = .ok (.iload 4, 2)) ∧ (decode cL_law 816 = .ok (.iconst 1, 1)) ∧ (decode cL_law 817 = .ok (.iadd, 1)) ∧ (decode cL_law 818 = .ok (.iaload, 1)) ∧ (decode cL_law 819 = .ok (.aload_n 0, 1)) ∧ (decode cL_law 820 = .ok (.iload 4, 2)) := by decide +kernel
theorem dL_law_814 : decode cL_law 814 = .ok (.iload 4, 2) := gdL_law_814.1
theorem dL_law_816 : decode cL_law 816 = .ok (.iconst 1, 1) := gdL_law_814.2.1
theorem dL_law_817 : decode cL_law 817 = .ok (.iadd, 1) := gdL_law_814.2.2.1
theorem dL_law_818 : decode cL_law 818 = .ok (.iaload, 1) := gdL_law_814.2.2.2.1
theorem dL_law_819 : decode cL_law 819 = .ok (.aload_n 0, 1) := gdL_law_814.2.2.2.2.1
theorem dL_law_820 : decode cL_law 820 = .ok (.iload 4, 2) := gdL_law_814.2.2.2.2.2
theorem gdL_law_822 : (decode cL_law 822 = .ok (.iconst 2, 1)) ∧ (decode cL_law 823 = .ok (.iadd, 1)) ∧ (decode cL_law 824 = .ok (.iaload, 1)) ∧ (decode cL_law 825 = .ok (.aload_n 3, 1)) ∧ (decode cL_law 826 = .ok (.invokestatic 195, 3)) ∧ (decode cL_law 829 = .ok (.istore 5, 2)) := by decide +kernel
theorem dL_law_822 : decode cL_law 822 = .ok (.iconst 2, 1) := gdL_law_822.1
theorem dL_law_823 : decode cL_law 823 = .ok (.iadd, 1) := gdL_law_822.2.1
theorem dL_law_824 : decode cL_law 824 = .ok (.iaload, 1) := gdL_law_822.2.2.1
theorem dL_law_825 : decode cL_law 825 = .ok (.aload_n 3, 1) := gdL_law_822.2.2.2.1
theorem dL_law_826 : decode cL_law 826 = .ok (.invokestatic 195, 3) := gdL_law_822.2.2.2.2.1
theorem dL_law_829 : decode cL_law 829 = .ok (.istore 5, 2) := gdL_law_822.2.2.2.2.2
theorem gdL_law_831 : (decode cL_law 831 = .ok (.aload_n 2, 1)) ∧ (decode cL_law 832 = .ok (.aload_n 0, 1)) ∧ (decode cL_law 833 = .ok (.iload 4, 2)) ∧ (decode cL_law 835 = .ok (.iconst 1, 1)) ∧ (decode cL_law 836 = .ok (.iadd, 1)) ∧ (decode cL_law 837 = .ok (.iaload, 1)) := by decide +kernel
theorem dL_law_831 : decode cL_law 831 = .ok (.aload_n 2, 1) := gdL_law_831.1
theorem dL_law_832 : decode cL_law 832 = .ok (.aload_n 0, 1) := gdL_law_831.2.1
theorem dL_law_833 : decode cL_law 833 = .ok (.iload 4, 2) := gdL_law_831.2.2.1
theorem dL_law_835 : decode cL_law 835 = .ok (.iconst 1, 1) := gdL_law_831.2.2.2.1
theorem dL_law_836 : decode cL_law 836 = .ok (.iadd, 1) := gdL_law_831.2.2.2.2.1
theorem dL_law_837 : decode cL_law 837 = .ok (.iaload, 1) := gdL_law_831.2.2.2.2.2
theorem gdL_law_838 : (decode cL_law 838 = .ok (.aload_n 0, 1)) ∧ (decode cL_law 839 = .ok (.iload 4, 2)) ∧ (decode cL_law 841 = .ok (.iconst 2, 1)) ∧ (decode cL_law 842 = .ok (.iadd, 1)) ∧ (decode cL_law 843 = .ok (.iaload, 1)) ∧ (decode cL_law 844 = .ok (.invokevirtual 197, 3)) := by decide +kernel
theorem dL_law_838 : decode cL_law 838 = .ok (.aload_n 0, 1) := gdL_law_838.1
theorem dL_law_839 : decode cL_law 839 = .ok (.iload 4, 2) := gdL_law_838.2.1
theorem dL_law_841 : decode cL_law 841 = .ok (.iconst 2, 1) := gdL_law_838.2.2.1
theorem dL_law_842 : decode cL_law 842 = .ok (.iadd, 1) := gdL_law_838.2.2.2.1
theorem dL_law_843 : decode cL_law 843 = .ok (.iaload, 1) := gdL_law_838.2.2.2.2.1
theorem dL_law_844 : decode cL_law 844 = .ok (.invokevirtual 197, 3) := gdL_law_838.2.2.2.2.2
theorem gdL_law_847 : (decode cL_law 847 = .ok (.istore 6, 2)) ∧ (decode cL_law 849 = .ok (.goto 1235, 3)) ∧ (decode cL_law 852 = .ok (.aload_n 1, 1)) ∧ (decode cL_law 853 = .ok (.aload_n 0, 1)) ∧ (decode cL_law 854 = .ok (.iload 4, 2)) ∧ (decode cL_law 856 = .ok (.iconst 1, 1)) := by decide +kernel
theorem dL_law_847 : decode cL_law 847 = .ok (.istore 6, 2) := gdL_law_847.1
theorem dL_law_849 : decode cL_law 849 = .ok (.goto 1235, 3) := gdL_law_847.2.1
theorem dL_law_852 : decode cL_law 852 = .ok (.aload_n 1, 1) := gdL_law_847.2.2.1
theorem dL_law_853 : decode cL_law 853 = .ok (.aload_n 0, 1) := gdL_law_847.2.2.2.1
theorem dL_law_854 : decode cL_law 854 = .ok (.iload 4, 2) := gdL_law_847.2.2.2.2.1
theorem dL_law_856 : decode cL_law 856 = .ok (.iconst 1, 1) := gdL_law_847.2.2.2.2.2
theorem gdL_law_857 : (decode cL_law 857 = .ok (.iadd, 1)) ∧ (decode cL_law 858 = .ok (.iaload, 1)) ∧ (decode cL_law 859 = .ok (.aload_n 0, 1)) ∧ (decode cL_law 860 = .ok (.iload 4, 2)) ∧ (decode cL_law 862 = .ok (.iconst 2, 1)) ∧ (decode cL_law 863 = .ok (.iadd, 1)) := by decide +kernel
theorem dL_law_857 : decode cL_law 857 = .ok (.iadd, 1) := gdL_law_857.1
theorem dL_law_858 : decode cL_law 858 = .ok (.iaload, 1) := gdL_law_857.2.1
theorem dL_law_859 : decode cL_law 859 = .ok (.aload_n 0, 1) := gdL_law_857.2.2.1
theorem dL_law_860 : decode cL_law 860 = .ok (.iload 4, 2) := gdL_law_857.2.2.2.1
theorem dL_law_862 : decode cL_law 862 = .ok (.iconst 2, 1) := gdL_law_857.2.2.2.2.1
theorem dL_law_863 : decode cL_law 863 = .ok (.iadd, 1) := gdL_law_857.2.2.2.2.2
theorem gdL_law_864 : (decode cL_law 864 = .ok (.iaload, 1)) ∧ (decode cL_law 865 = .ok (.aload_n 0, 1)) ∧ (decode cL_law 866 = .ok (.iload 4, 2)) ∧ (decode cL_law 868 = .ok (.iconst 3, 1)) ∧ (decode cL_law 869 = .ok (.iadd, 1)) ∧ (decode cL_law 870 = .ok (.iaload, 1)) := by decide +kernel
theorem dL_law_864 : decode cL_law 864 = .ok (.iaload, 1) := gdL_law_864.1
theorem dL_law_865 : decode cL_law 865 = .ok (.aload_n 0, 1) := gdL_law_864.2.1
theorem dL_law_866 : decode cL_law 866 = .ok (.iload 4, 2) := gdL_law_864.2.2.1
theorem dL_law_868 : decode cL_law 868 = .ok (.iconst 3, 1) := gdL_law_864.2.2.2.1
theorem dL_law_869 : decode cL_law 869 = .ok (.iadd, 1) := gdL_law_864.2.2.2.2.1
theorem dL_law_870 : decode cL_law 870 = .ok (.iaload, 1) := gdL_law_864.2.2.2.2.2
theorem gdL_law_871 : (decode cL_law 871 = .ok (.aload_n 0, 1)) ∧ (decode cL_law 872 = .ok (.iload 4, 2)) ∧ (decode cL_law 874 = .ok (.iconst 4, 1)) ∧ (decode cL_law 875 = .ok (.iadd, 1)) ∧ (decode cL_law 876 = .ok (.iaload, 1)) ∧ (decode cL_law 877 = .ok (.aload_n 0, 1)) := by decide +kernel
theorem dL_law_871 : decode cL_law 871 = .ok (.aload_n 0, 1) := gdL_law_871.1
theorem dL_law_872 : decode cL_law 872 = .ok (.iload 4, 2) := gdL_law_871.2.1
theorem dL_law_874 : decode cL_law 874 = .ok (.iconst 4, 1) := gdL_law_871.2.2.1
theorem dL_law_875 : decode cL_law 875 = .ok (.iadd, 1) := gdL_law_871.2.2.2.1
theorem dL_law_876 : decode cL_law 876 = .ok (.iaload, 1) := gdL_law_871.2.2.2.2.1
theorem dL_law_877 : decode cL_law 877 = .ok (.aload_n 0, 1) := gdL_law_871.2.2.2.2.2
theorem gdL_law_878 : (decode cL_law 878 = .ok (.iload 4, 2)) ∧ (decode cL_law 880 = .ok (.iconst 5, 1)) ∧ (decode cL_law 881 = .ok (.iadd, 1)) ∧ (decode cL_law 882 = .ok (.iaload, 1)) ∧ (decode cL_law 883 = .ok (.aload_n 3, 1)) ∧ (decode cL_law 884 = .ok (.invokestatic 198, 3)) := by decide +kernel
theorem dL_law_878 : decode cL_law 878 = .ok (.iload 4, 2) := gdL_law_878.1
theorem dL_law_880 : decode cL_law 880 = .ok (.iconst 5, 1) := gdL_law_878.2.1
theorem dL_law_881 : decode cL_law 881 = .ok (.iadd, 1) := gdL_law_878.2.2.1
theorem dL_law_882 : decode cL_law 882 = .ok (.iaload, 1) := gdL_law_878.2.2.2.1
theorem dL_law_883 : decode cL_law 883 = .ok (.aload_n 3, 1) := gdL_law_878.2.2.2.2.1
theorem dL_law_884 : decode cL_law 884 = .ok (.invokestatic 198, 3) := gdL_law_878.2.2.2.2.2
theorem gdL_law_887 : (decode cL_law 887 = .ok (.istore 5, 2)) ∧ (decode cL_law 889 = .ok (.aload_n 2, 1)) ∧ (decode cL_law 890 = .ok (.aload_n 0, 1)) ∧ (decode cL_law 891 = .ok (.iload 4, 2)) ∧ (decode cL_law 893 = .ok (.iconst 1, 1)) ∧ (decode cL_law 894 = .ok (.iadd, 1)) := by decide +kernel
theorem dL_law_887 : decode cL_law 887 = .ok (.istore 5, 2) := gdL_law_887.1
theorem dL_law_889 : decode cL_law 889 = .ok (.aload_n 2, 1) := gdL_law_887.2.1
theorem dL_law_890 : decode cL_law 890 = .ok (.aload_n 0, 1) := gdL_law_887.2.2.1
theorem dL_law_891 : decode cL_law 891 = .ok (.iload 4, 2) := gdL_law_887.2.2.2.1
theorem dL_law_893 : decode cL_law 893 = .ok (.iconst 1, 1) := gdL_law_887.2.2.2.2.1
theorem dL_law_894 : decode cL_law 894 = .ok (.iadd, 1) := gdL_law_887.2.2.2.2.2
theorem gdL_law_895 : (decode cL_law 895 = .ok (.iaload, 1)) ∧ (decode cL_law 896 = .ok (.aload_n 0, 1)) ∧ (decode cL_law 897 = .ok (.iload 4, 2)) ∧ (decode cL_law 899 = .ok (.iconst 2, 1)) ∧ (decode cL_law 900 = .ok (.iadd, 1)) ∧ (decode cL_law 901 = .ok (.iaload, 1)) := by decide +kernel
theorem dL_law_895 : decode cL_law 895 = .ok (.iaload, 1) := gdL_law_895.1
theorem dL_law_896 : decode cL_law 896 = .ok (.aload_n 0, 1) := gdL_law_895.2.1
theorem dL_law_897 : decode cL_law 897 = .ok (.iload 4, 2) := gdL_law_895.2.2.1
theorem dL_law_899 : decode cL_law 899 = .ok (.iconst 2, 1) := gdL_law_895.2.2.2.1
theorem dL_law_900 : decode cL_law 900 = .ok (.iadd, 1) := gdL_law_895.2.2.2.2.1
theorem dL_law_901 : decode cL_law 901 = .ok (.iaload, 1) := gdL_law_895.2.2.2.2.2
theorem gdL_law_902 : (decode cL_law 902 = .ok (.aload_n 0, 1)) ∧ (decode cL_law 903 = .ok (.iload 4, 2)) ∧ (decode cL_law 905 = .ok (.iconst 3, 1)) ∧ (decode cL_law 906 = .ok (.iadd, 1)) ∧ (decode cL_law 907 = .ok (.iaload, 1)) ∧ (decode cL_law 908 = .ok (.aload_n 0, 1)) := by decide +kernel
theorem dL_law_902 : decode cL_law 902 = .ok (.aload_n 0, 1) := gdL_law_902.1
theorem dL_law_903 : decode cL_law 903 = .ok (.iload 4, 2) := gdL_law_902.2.1
theorem dL_law_905 : decode cL_law 905 = .ok (.iconst 3, 1) := gdL_law_902.2.2.1
theorem dL_law_906 : decode cL_law 906 = .ok (.iadd, 1) := gdL_law_902.2.2.2.1
theorem dL_law_907 : decode cL_law 907 = .ok (.iaload, 1) := gdL_law_902.2.2.2.2.1
theorem dL_law_908 : decode cL_law 908 = .ok (.aload_n 0, 1) := gdL_law_902.2.2.2.2.2
theorem gdL_law_909 : (decode cL_law 909 = .ok (.iload 4, 2)) ∧ (decode cL_law 911 = .ok (.iconst 4, 1)) ∧ (decode cL_law 912 = .ok (.iadd, 1)) ∧ (decode cL_law 913 = .ok (.iaload, 1)) ∧ (decode cL_law 914 = .ok (.aload_n 0, 1)) ∧ (decode cL_law 915 = .ok (.iload 4, 2)) := by decide +kernel
theorem dL_law_909 : decode cL_law 909 = .ok (.iload 4, 2) := gdL_law_909.1
theorem dL_law_911 : decode cL_law 911 = .ok (.iconst 4, 1) := gdL_law_909.2.1
theorem dL_law_912 : decode cL_law 912 = .ok (.iadd, 1) := gdL_law_909.2.2.1
theorem dL_law_913 : decode cL_law 913 = .ok (.iaload, 1) := gdL_law_909.2.2.2.1
theorem dL_law_914 : decode cL_law 914 = .ok (.aload_n 0, 1) := gdL_law_909.2.2.2.2.1
theorem dL_law_915 : decode cL_law 915 = .ok (.iload 4, 2) := gdL_law_909.2.2.2.2.2
theorem gdL_law_917 : (decode cL_law 917 = .ok (.iconst 5, 1)) ∧ (decode cL_law 918 = .ok (.iadd, 1)) ∧ (decode cL_law 919 = .ok (.iaload, 1)) ∧ (decode cL_law 920 = .ok (.invokevirtual 200, 3)) ∧ (decode cL_law 923 = .ok (.istore 6, 2)) ∧ (decode cL_law 925 = .ok (.goto 1159, 3)) := by decide +kernel
theorem dL_law_917 : decode cL_law 917 = .ok (.iconst 5, 1) := gdL_law_917.1
theorem dL_law_918 : decode cL_law 918 = .ok (.iadd, 1) := gdL_law_917.2.1
theorem dL_law_919 : decode cL_law 919 = .ok (.iaload, 1) := gdL_law_917.2.2.1
theorem dL_law_920 : decode cL_law 920 = .ok (.invokevirtual 200, 3) := gdL_law_917.2.2.2.1
theorem dL_law_923 : decode cL_law 923 = .ok (.istore 6, 2) := gdL_law_917.2.2.2.2.1
theorem dL_law_925 : decode cL_law 925 = .ok (.goto 1159, 3) := gdL_law_917.2.2.2.2.2
theorem gdL_law_928 : (decode cL_law 928 = .ok (.aload_n 1, 1)) ∧ (decode cL_law 929 = .ok (.aload_n 0, 1)) ∧ (decode cL_law 930 = .ok (.iload 4, 2)) ∧ (decode cL_law 932 = .ok (.iconst 1, 1)) ∧ (decode cL_law 933 = .ok (.iadd, 1)) ∧ (decode cL_law 934 = .ok (.iaload, 1)) := by decide +kernel
theorem dL_law_928 : decode cL_law 928 = .ok (.aload_n 1, 1) := gdL_law_928.1
theorem dL_law_929 : decode cL_law 929 = .ok (.aload_n 0, 1) := gdL_law_928.2.1
theorem dL_law_930 : decode cL_law 930 = .ok (.iload 4, 2) := gdL_law_928.2.2.1
theorem dL_law_932 : decode cL_law 932 = .ok (.iconst 1, 1) := gdL_law_928.2.2.2.1
theorem dL_law_933 : decode cL_law 933 = .ok (.iadd, 1) := gdL_law_928.2.2.2.2.1
theorem dL_law_934 : decode cL_law 934 = .ok (.iaload, 1) := gdL_law_928.2.2.2.2.2
theorem gdL_law_935 : (decode cL_law 935 = .ok (.aload_n 0, 1)) ∧ (decode cL_law 936 = .ok (.iload 4, 2)) ∧ (decode cL_law 938 = .ok (.iconst 2, 1)) ∧ (decode cL_law 939 = .ok (.iadd, 1)) ∧ (decode cL_law 940 = .ok (.iaload, 1)) ∧ (decode cL_law 941 = .ok (.aload_n 0, 1)) := by decide +kernel
theorem dL_law_935 : decode cL_law 935 = .ok (.aload_n 0, 1) := gdL_law_935.1
theorem dL_law_936 : decode cL_law 936 = .ok (.iload 4, 2) := gdL_law_935.2.1
theorem dL_law_938 : decode cL_law 938 = .ok (.iconst 2, 1) := gdL_law_935.2.2.1
theorem dL_law_939 : decode cL_law 939 = .ok (.iadd, 1) := gdL_law_935.2.2.2.1
theorem dL_law_940 : decode cL_law 940 = .ok (.iaload, 1) := gdL_law_935.2.2.2.2.1
theorem dL_law_941 : decode cL_law 941 = .ok (.aload_n 0, 1) := gdL_law_935.2.2.2.2.2
theorem gdL_law_942 : (decode cL_law 942 = .ok (.iload 4, 2)) ∧ (decode cL_law 944 = .ok (.iconst 3, 1)) ∧ (decode cL_law 945 = .ok (.iadd, 1)) ∧ (decode cL_law 946 = .ok (.iaload, 1)) ∧ (decode cL_law 947 = .ok (.aload_n 0, 1)) ∧ (decode cL_law 948 = .ok (.iload 4, 2)) := by decide +kernel
theorem dL_law_942 : decode cL_law 942 = .ok (.iload 4, 2) := gdL_law_942.1
theorem dL_law_944 : decode cL_law 944 = .ok (.iconst 3, 1) := gdL_law_942.2.1
theorem dL_law_945 : decode cL_law 945 = .ok (.iadd, 1) := gdL_law_942.2.2.1
theorem dL_law_946 : decode cL_law 946 = .ok (.iaload, 1) := gdL_law_942.2.2.2.1
theorem dL_law_947 : decode cL_law 947 = .ok (.aload_n 0, 1) := gdL_law_942.2.2.2.2.1
theorem dL_law_948 : decode cL_law 948 = .ok (.iload 4, 2) := gdL_law_942.2.2.2.2.2
theorem gdL_law_950 : (decode cL_law 950 = .ok (.iconst 4, 1)) ∧ (decode cL_law 951 = .ok (.iadd, 1)) ∧ (decode cL_law 952 = .ok (.iaload, 1)) ∧ (decode cL_law 953 = .ok (.aload_n 0, 1)) ∧ (decode cL_law 954 = .ok (.iload 4, 2)) ∧ (decode cL_law 956 = .ok (.iconst 5, 1)) := by decide +kernel
theorem dL_law_950 : decode cL_law 950 = .ok (.iconst 4, 1) := gdL_law_950.1
theorem dL_law_951 : decode cL_law 951 = .ok (.iadd, 1) := gdL_law_950.2.1
theorem dL_law_952 : decode cL_law 952 = .ok (.iaload, 1) := gdL_law_950.2.2.1
theorem dL_law_953 : decode cL_law 953 = .ok (.aload_n 0, 1) := gdL_law_950.2.2.2.1
theorem dL_law_954 : decode cL_law 954 = .ok (.iload 4, 2) := gdL_law_950.2.2.2.2.1
theorem dL_law_956 : decode cL_law 956 = .ok (.iconst 5, 1) := gdL_law_950.2.2.2.2.2
theorem gdL_law_957 : (decode cL_law 957 = .ok (.iadd, 1)) ∧ (decode cL_law 958 = .ok (.iaload, 1)) ∧ (decode cL_law 959 = .ok (.aload_n 3, 1)) ∧ (decode cL_law 960 = .ok (.invokestatic 201, 3)) ∧ (decode cL_law 963 = .ok (.istore 5, 2)) ∧ (decode cL_law 965 = .ok (.aload_n 2, 1)) := by decide +kernel
theorem dL_law_957 : decode cL_law 957 = .ok (.iadd, 1) := gdL_law_957.1
theorem dL_law_958 : decode cL_law 958 = .ok (.iaload, 1) := gdL_law_957.2.1
theorem dL_law_959 : decode cL_law 959 = .ok (.aload_n 3, 1) := gdL_law_957.2.2.1
theorem dL_law_960 : decode cL_law 960 = .ok (.invokestatic 201, 3) := gdL_law_957.2.2.2.1
theorem dL_law_963 : decode cL_law 963 = .ok (.istore 5, 2) := gdL_law_957.2.2.2.2.1
theorem dL_law_965 : decode cL_law 965 = .ok (.aload_n 2, 1) := gdL_law_957.2.2.2.2.2
theorem gdL_law_966 : (decode cL_law 966 = .ok (.aload_n 0, 1)) ∧ (decode cL_law 967 = .ok (.iload 4, 2)) ∧ (decode cL_law 969 = .ok (.iconst 1, 1)) ∧ (decode cL_law 970 = .ok (.iadd, 1)) ∧ (decode cL_law 971 = .ok (.iaload, 1)) ∧ (decode cL_law 972 = .ok (.aload_n 0, 1)) := by decide +kernel
theorem dL_law_966 : decode cL_law 966 = .ok (.aload_n 0, 1) := gdL_law_966.1
theorem dL_law_967 : decode cL_law 967 = .ok (.iload 4, 2) := gdL_law_966.2.1
theorem dL_law_969 : decode cL_law 969 = .ok (.iconst 1, 1) := gdL_law_966.2.2.1
theorem dL_law_970 : decode cL_law 970 = .ok (.iadd, 1) := gdL_law_966.2.2.2.1
theorem dL_law_971 : decode cL_law 971 = .ok (.iaload, 1) := gdL_law_966.2.2.2.2.1
theorem dL_law_972 : decode cL_law 972 = .ok (.aload_n 0, 1) := gdL_law_966.2.2.2.2.2
theorem gdL_law_973 : (decode cL_law 973 = .ok (.iload 4, 2)) ∧ (decode cL_law 975 = .ok (.iconst 2, 1)) ∧ (decode cL_law 976 = .ok (.iadd, 1)) ∧ (decode cL_law 977 = .ok (.iaload, 1)) ∧ (decode cL_law 978 = .ok (.aload_n 0, 1)) ∧ (decode cL_law 979 = .ok (.iload 4, 2)) := by decide +kernel
theorem dL_law_973 : decode cL_law 973 = .ok (.iload 4, 2) := gdL_law_973.1
theorem dL_law_975 : decode cL_law 975 = .ok (.iconst 2, 1) := gdL_law_973.2.1
theorem dL_law_976 : decode cL_law 976 = .ok (.iadd, 1) := gdL_law_973.2.2.1
theorem dL_law_977 : decode cL_law 977 = .ok (.iaload, 1) := gdL_law_973.2.2.2.1
theorem dL_law_978 : decode cL_law 978 = .ok (.aload_n 0, 1) := gdL_law_973.2.2.2.2.1
theorem dL_law_979 : decode cL_law 979 = .ok (.iload 4, 2) := gdL_law_973.2.2.2.2.2
theorem gdL_law_981 : (decode cL_law 981 = .ok (.iconst 3, 1)) ∧ (decode cL_law 982 = .ok (.iadd, 1)) ∧ (decode cL_law 983 = .ok (.iaload, 1)) ∧ (decode cL_law 984 = .ok (.aload_n 0, 1)) ∧ (decode cL_law 985 = .ok (.iload 4, 2)) ∧ (decode cL_law 987 = .ok (.iconst 4, 1)) := by decide +kernel
theorem dL_law_981 : decode cL_law 981 = .ok (.iconst 3, 1) := gdL_law_981.1
theorem dL_law_982 : decode cL_law 982 = .ok (.iadd, 1) := gdL_law_981.2.1
theorem dL_law_983 : decode cL_law 983 = .ok (.iaload, 1) := gdL_law_981.2.2.1
theorem dL_law_984 : decode cL_law 984 = .ok (.aload_n 0, 1) := gdL_law_981.2.2.2.1
theorem dL_law_985 : decode cL_law 985 = .ok (.iload 4, 2) := gdL_law_981.2.2.2.2.1
theorem dL_law_987 : decode cL_law 987 = .ok (.iconst 4, 1) := gdL_law_981.2.2.2.2.2
theorem gdL_law_988 : (decode cL_law 988 = .ok (.iadd, 1)) ∧ (decode cL_law 989 = .ok (.iaload, 1)) ∧ (decode cL_law 990 = .ok (.aload_n 0, 1)) ∧ (decode cL_law 991 = .ok (.iload 4, 2)) ∧ (decode cL_law 993 = .ok (.iconst 5, 1)) ∧ (decode cL_law 994 = .ok (.iadd, 1)) := by decide +kernel
theorem dL_law_988 : decode cL_law 988 = .ok (.iadd, 1) := gdL_law_988.1
theorem dL_law_989 : decode cL_law 989 = .ok (.iaload, 1) := gdL_law_988.2.1
theorem dL_law_990 : decode cL_law 990 = .ok (.aload_n 0, 1) := gdL_law_988.2.2.1
theorem dL_law_991 : decode cL_law 991 = .ok (.iload 4, 2) := gdL_law_988.2.2.2.1
theorem dL_law_993 : decode cL_law 993 = .ok (.iconst 5, 1) := gdL_law_988.2.2.2.2.1
theorem dL_law_994 : decode cL_law 994 = .ok (.iadd, 1) := gdL_law_988.2.2.2.2.2
theorem gdL_law_995 : (decode cL_law 995 = .ok (.iaload, 1)) ∧ (decode cL_law 996 = .ok (.invokevirtual 203, 3)) ∧ (decode cL_law 999 = .ok (.istore 6, 2)) ∧ (decode cL_law 1001 = .ok (.goto 1083, 3)) ∧ (decode cL_law 1004 = .ok (.aload_n 1, 1)) ∧ (decode cL_law 1005 = .ok (.aload_n 0, 1)) := by decide +kernel
theorem dL_law_995 : decode cL_law 995 = .ok (.iaload, 1) := gdL_law_995.1
theorem dL_law_996 : decode cL_law 996 = .ok (.invokevirtual 203, 3) := gdL_law_995.2.1
theorem dL_law_999 : decode cL_law 999 = .ok (.istore 6, 2) := gdL_law_995.2.2.1
theorem dL_law_1001 : decode cL_law 1001 = .ok (.goto 1083, 3) := gdL_law_995.2.2.2.1
theorem dL_law_1004 : decode cL_law 1004 = .ok (.aload_n 1, 1) := gdL_law_995.2.2.2.2.1
theorem dL_law_1005 : decode cL_law 1005 = .ok (.aload_n 0, 1) := gdL_law_995.2.2.2.2.2
theorem gdL_law_1006 : (decode cL_law 1006 = .ok (.iload 4, 2)) ∧ (decode cL_law 1008 = .ok (.iconst 1, 1)) ∧ (decode cL_law 1009 = .ok (.iadd, 1)) ∧ (decode cL_law 1010 = .ok (.iaload, 1)) ∧ (decode cL_law 1011 = .ok (.aload_n 0, 1)) ∧ (decode cL_law 1012 = .ok (.iload 4, 2)) := by decide +kernel
theorem dL_law_1006 : decode cL_law 1006 = .ok (.iload 4, 2) := gdL_law_1006.1
theorem dL_law_1008 : decode cL_law 1008 = .ok (.iconst 1, 1) := gdL_law_1006.2.1
theorem dL_law_1009 : decode cL_law 1009 = .ok (.iadd, 1) := gdL_law_1006.2.2.1
theorem dL_law_1010 : decode cL_law 1010 = .ok (.iaload, 1) := gdL_law_1006.2.2.2.1
theorem dL_law_1011 : decode cL_law 1011 = .ok (.aload_n 0, 1) := gdL_law_1006.2.2.2.2.1
theorem dL_law_1012 : decode cL_law 1012 = .ok (.iload 4, 2) := gdL_law_1006.2.2.2.2.2
theorem gdL_law_1014 : (decode cL_law 1014 = .ok (.iconst 2, 1)) ∧ (decode cL_law 1015 = .ok (.iadd, 1)) ∧ (decode cL_law 1016 = .ok (.iaload, 1)) ∧ (decode cL_law 1017 = .ok (.aload_n 0, 1)) ∧ (decode cL_law 1018 = .ok (.iload 4, 2)) ∧ (decode cL_law 1020 = .ok (.iconst 3, 1)) := by decide +kernel
theorem dL_law_1014 : decode cL_law 1014 = .ok (.iconst 2, 1) := gdL_law_1014.1
theorem dL_law_1015 : decode cL_law 1015 = .ok (.iadd, 1) := gdL_law_1014.2.1
theorem dL_law_1016 : decode cL_law 1016 = .ok (.iaload, 1) := gdL_law_1014.2.2.1
theorem dL_law_1017 : decode cL_law 1017 = .ok (.aload_n 0, 1) := gdL_law_1014.2.2.2.1
theorem dL_law_1018 : decode cL_law 1018 = .ok (.iload 4, 2) := gdL_law_1014.2.2.2.2.1
theorem dL_law_1020 : decode cL_law 1020 = .ok (.iconst 3, 1) := gdL_law_1014.2.2.2.2.2
theorem gdL_law_1021 : (decode cL_law 1021 = .ok (.iadd, 1)) ∧ (decode cL_law 1022 = .ok (.iaload, 1)) ∧ (decode cL_law 1023 = .ok (.aload_n 0, 1)) ∧ (decode cL_law 1024 = .ok (.iload 4, 2)) ∧ (decode cL_law 1026 = .ok (.iconst 4, 1)) ∧ (decode cL_law 1027 = .ok (.iadd, 1)) := by decide +kernel
theorem dL_law_1021 : decode cL_law 1021 = .ok (.iadd, 1) := gdL_law_1021.1
theorem dL_law_1022 : decode cL_law 1022 = .ok (.iaload, 1) := gdL_law_1021.2.1
theorem dL_law_1023 : decode cL_law 1023 = .ok (.aload_n 0, 1) := gdL_law_1021.2.2.1
theorem dL_law_1024 : decode cL_law 1024 = .ok (.iload 4, 2) := gdL_law_1021.2.2.2.1
theorem dL_law_1026 : decode cL_law 1026 = .ok (.iconst 4, 1) := gdL_law_1021.2.2.2.2.1
theorem dL_law_1027 : decode cL_law 1027 = .ok (.iadd, 1) := gdL_law_1021.2.2.2.2.2
theorem gdL_law_1028 : (decode cL_law 1028 = .ok (.iaload, 1)) ∧ (decode cL_law 1029 = .ok (.aload_n 0, 1)) ∧ (decode cL_law 1030 = .ok (.iload 4, 2)) ∧ (decode cL_law 1032 = .ok (.iconst 5, 1)) ∧ (decode cL_law 1033 = .ok (.iadd, 1)) ∧ (decode cL_law 1034 = .ok (.iaload, 1)) := by decide +kernel
theorem dL_law_1028 : decode cL_law 1028 = .ok (.iaload, 1) := gdL_law_1028.1
theorem dL_law_1029 : decode cL_law 1029 = .ok (.aload_n 0, 1) := gdL_law_1028.2.1
theorem dL_law_1030 : decode cL_law 1030 = .ok (.iload 4, 2) := gdL_law_1028.2.2.1
theorem dL_law_1032 : decode cL_law 1032 = .ok (.iconst 5, 1) := gdL_law_1028.2.2.2.1
theorem dL_law_1033 : decode cL_law 1033 = .ok (.iadd, 1) := gdL_law_1028.2.2.2.2.1
theorem dL_law_1034 : decode cL_law 1034 = .ok (.iaload, 1) := gdL_law_1028.2.2.2.2.2
theorem gdL_law_1035 : (decode cL_law 1035 = .ok (.aload_n 3, 1)) ∧ (decode cL_law 1036 = .ok (.invokestatic 204, 3)) ∧ (decode cL_law 1039 = .ok (.istore 5, 2)) ∧ (decode cL_law 1041 = .ok (.aload_n 2, 1)) ∧ (decode cL_law 1042 = .ok (.aload_n 0, 1)) ∧ (decode cL_law 1043 = .ok (.iload 4, 2)) := by decide +kernel
theorem dL_law_1035 : decode cL_law 1035 = .ok (.aload_n 3, 1) := gdL_law_1035.1
theorem dL_law_1036 : decode cL_law 1036 = .ok (.invokestatic 204, 3) := gdL_law_1035.2.1
theorem dL_law_1039 : decode cL_law 1039 = .ok (.istore 5, 2) := gdL_law_1035.2.2.1
theorem dL_law_1041 : decode cL_law 1041 = .ok (.aload_n 2, 1) := gdL_law_1035.2.2.2.1
theorem dL_law_1042 : decode cL_law 1042 = .ok (.aload_n 0, 1) := gdL_law_1035.2.2.2.2.1
theorem dL_law_1043 : decode cL_law 1043 = .ok (.iload 4, 2) := gdL_law_1035.2.2.2.2.2
theorem gdL_law_1045 : (decode cL_law 1045 = .ok (.iconst 1, 1)) ∧ (decode cL_law 1046 = .ok (.iadd, 1)) ∧ (decode cL_law 1047 = .ok (.iaload, 1)) ∧ (decode cL_law 1048 = .ok (.aload_n 0, 1)) ∧ (decode cL_law 1049 = .ok (.iload 4, 2)) ∧ (decode cL_law 1051 = .ok (.iconst 2, 1)) := by decide +kernel
theorem dL_law_1045 : decode cL_law 1045 = .ok (.iconst 1, 1) := gdL_law_1045.1
theorem dL_law_1046 : decode cL_law 1046 = .ok (.iadd, 1) := gdL_law_1045.2.1
theorem dL_law_1047 : decode cL_law 1047 = .ok (.iaload, 1) := gdL_law_1045.2.2.1
theorem dL_law_1048 : decode cL_law 1048 = .ok (.aload_n 0, 1) := gdL_law_1045.2.2.2.1
theorem dL_law_1049 : decode cL_law 1049 = .ok (.iload 4, 2) := gdL_law_1045.2.2.2.2.1
theorem dL_law_1051 : decode cL_law 1051 = .ok (.iconst 2, 1) := gdL_law_1045.2.2.2.2.2
theorem gdL_law_1052 : (decode cL_law 1052 = .ok (.iadd, 1)) ∧ (decode cL_law 1053 = .ok (.iaload, 1)) ∧ (decode cL_law 1054 = .ok (.aload_n 0, 1)) ∧ (decode cL_law 1055 = .ok (.iload 4, 2)) ∧ (decode cL_law 1057 = .ok (.iconst 3, 1)) ∧ (decode cL_law 1058 = .ok (.iadd, 1)) := by decide +kernel
theorem dL_law_1052 : decode cL_law 1052 = .ok (.iadd, 1) := gdL_law_1052.1
theorem dL_law_1053 : decode cL_law 1053 = .ok (.iaload, 1) := gdL_law_1052.2.1
theorem dL_law_1054 : decode cL_law 1054 = .ok (.aload_n 0, 1) := gdL_law_1052.2.2.1
theorem dL_law_1055 : decode cL_law 1055 = .ok (.iload 4, 2) := gdL_law_1052.2.2.2.1
theorem dL_law_1057 : decode cL_law 1057 = .ok (.iconst 3, 1) := gdL_law_1052.2.2.2.2.1
theorem dL_law_1058 : decode cL_law 1058 = .ok (.iadd, 1) := gdL_law_1052.2.2.2.2.2
theorem gdL_law_1059 : (decode cL_law 1059 = .ok (.iaload, 1)) ∧ (decode cL_law 1060 = .ok (.aload_n 0, 1)) ∧ (decode cL_law 1061 = .ok (.iload 4, 2)) ∧ (decode cL_law 1063 = .ok (.iconst 4, 1)) ∧ (decode cL_law 1064 = .ok (.iadd, 1)) ∧ (decode cL_law 1065 = .ok (.iaload, 1)) := by decide +kernel
theorem dL_law_1059 : decode cL_law 1059 = .ok (.iaload, 1) := gdL_law_1059.1
theorem dL_law_1060 : decode cL_law 1060 = .ok (.aload_n 0, 1) := gdL_law_1059.2.1
theorem dL_law_1061 : decode cL_law 1061 = .ok (.iload 4, 2) := gdL_law_1059.2.2.1
theorem dL_law_1063 : decode cL_law 1063 = .ok (.iconst 4, 1) := gdL_law_1059.2.2.2.1
theorem dL_law_1064 : decode cL_law 1064 = .ok (.iadd, 1) := gdL_law_1059.2.2.2.2.1
theorem dL_law_1065 : decode cL_law 1065 = .ok (.iaload, 1) := gdL_law_1059.2.2.2.2.2
theorem gdL_law_1066 : (decode cL_law 1066 = .ok (.aload_n 0, 1)) ∧ (decode cL_law 1067 = .ok (.iload 4, 2)) ∧ (decode cL_law 1069 = .ok (.iconst 5, 1)) ∧ (decode cL_law 1070 = .ok (.iadd, 1)) ∧ (decode cL_law 1071 = .ok (.iaload, 1)) ∧ (decode cL_law 1072 = .ok (.invokevirtual 206, 3)) := by decide +kernel
theorem dL_law_1066 : decode cL_law 1066 = .ok (.aload_n 0, 1) := gdL_law_1066.1
theorem dL_law_1067 : decode cL_law 1067 = .ok (.iload 4, 2) := gdL_law_1066.2.1
theorem dL_law_1069 : decode cL_law 1069 = .ok (.iconst 5, 1) := gdL_law_1066.2.2.1
theorem dL_law_1070 : decode cL_law 1070 = .ok (.iadd, 1) := gdL_law_1066.2.2.2.1
theorem dL_law_1071 : decode cL_law 1071 = .ok (.iaload, 1) := gdL_law_1066.2.2.2.2.1
theorem dL_law_1072 : decode cL_law 1072 = .ok (.invokevirtual 206, 3) := gdL_law_1066.2.2.2.2.2
theorem gdL_law_1075 : (decode cL_law 1075 = .ok (.istore 6, 2)) ∧ (decode cL_law 1077 = .ok (.goto 1007, 3)) ∧ (decode cL_law 1080 = .ok (.aload_n 1, 1)) ∧ (decode cL_law 1081 = .ok (.aload_n 0, 1)) ∧ (decode cL_law 1082 = .ok (.iload 4, 2)) ∧ (decode cL_law 1084 = .ok (.iconst 1, 1)) := by decide +kernel
theorem dL_law_1075 : decode cL_law 1075 = .ok (.istore 6, 2) := gdL_law_1075.1
theorem dL_law_1077 : decode cL_law 1077 = .ok (.goto 1007, 3) := gdL_law_1075.2.1
theorem dL_law_1080 : decode cL_law 1080 = .ok (.aload_n 1, 1) := gdL_law_1075.2.2.1
theorem dL_law_1081 : decode cL_law 1081 = .ok (.aload_n 0, 1) := gdL_law_1075.2.2.2.1
theorem dL_law_1082 : decode cL_law 1082 = .ok (.iload 4, 2) := gdL_law_1075.2.2.2.2.1
theorem dL_law_1084 : decode cL_law 1084 = .ok (.iconst 1, 1) := gdL_law_1075.2.2.2.2.2
theorem gdL_law_1085 : (decode cL_law 1085 = .ok (.iadd, 1)) ∧ (decode cL_law 1086 = .ok (.iaload, 1)) ∧ (decode cL_law 1087 = .ok (.aload_n 0, 1)) ∧ (decode cL_law 1088 = .ok (.iload 4, 2)) ∧ (decode cL_law 1090 = .ok (.iconst 2, 1)) ∧ (decode cL_law 1091 = .ok (.iadd, 1)) := by decide +kernel
theorem dL_law_1085 : decode cL_law 1085 = .ok (.iadd, 1) := gdL_law_1085.1
theorem dL_law_1086 : decode cL_law 1086 = .ok (.iaload, 1) := gdL_law_1085.2.1
theorem dL_law_1087 : decode cL_law 1087 = .ok (.aload_n 0, 1) := gdL_law_1085.2.2.1
theorem dL_law_1088 : decode cL_law 1088 = .ok (.iload 4, 2) := gdL_law_1085.2.2.2.1
theorem dL_law_1090 : decode cL_law 1090 = .ok (.iconst 2, 1) := gdL_law_1085.2.2.2.2.1
theorem dL_law_1091 : decode cL_law 1091 = .ok (.iadd, 1) := gdL_law_1085.2.2.2.2.2
theorem gdL_law_1092 : (decode cL_law 1092 = .ok (.iaload, 1)) ∧ (decode cL_law 1093 = .ok (.aload_n 3, 1)) ∧ (decode cL_law 1094 = .ok (.invokestatic 207, 3)) ∧ (decode cL_law 1097 = .ok (.istore 5, 2)) ∧ (decode cL_law 1099 = .ok (.aload_n 2, 1)) ∧ (decode cL_law 1100 = .ok (.aload_n 0, 1)) := by decide +kernel
theorem dL_law_1092 : decode cL_law 1092 = .ok (.iaload, 1) := gdL_law_1092.1
theorem dL_law_1093 : decode cL_law 1093 = .ok (.aload_n 3, 1) := gdL_law_1092.2.1
theorem dL_law_1094 : decode cL_law 1094 = .ok (.invokestatic 207, 3) := gdL_law_1092.2.2.1
theorem dL_law_1097 : decode cL_law 1097 = .ok (.istore 5, 2) := gdL_law_1092.2.2.2.1
theorem dL_law_1099 : decode cL_law 1099 = .ok (.aload_n 2, 1) := gdL_law_1092.2.2.2.2.1
theorem dL_law_1100 : decode cL_law 1100 = .ok (.aload_n 0, 1) := gdL_law_1092.2.2.2.2.2
theorem gdL_law_1101 : (decode cL_law 1101 = .ok (.iload 4, 2)) ∧ (decode cL_law 1103 = .ok (.iconst 1, 1)) ∧ (decode cL_law 1104 = .ok (.iadd, 1)) ∧ (decode cL_law 1105 = .ok (.iaload, 1)) ∧ (decode cL_law 1106 = .ok (.aload_n 0, 1)) ∧ (decode cL_law 1107 = .ok (.iload 4, 2)) := by decide +kernel
theorem dL_law_1101 : decode cL_law 1101 = .ok (.iload 4, 2) := gdL_law_1101.1
theorem dL_law_1103 : decode cL_law 1103 = .ok (.iconst 1, 1) := gdL_law_1101.2.1
theorem dL_law_1104 : decode cL_law 1104 = .ok (.iadd, 1) := gdL_law_1101.2.2.1
theorem dL_law_1105 : decode cL_law 1105 = .ok (.iaload, 1) := gdL_law_1101.2.2.2.1
theorem dL_law_1106 : decode cL_law 1106 = .ok (.aload_n 0, 1) := gdL_law_1101.2.2.2.2.1
theorem dL_law_1107 : decode cL_law 1107 = .ok (.iload 4, 2) := gdL_law_1101.2.2.2.2.2
theorem gdL_law_1109 : (decode cL_law 1109 = .ok (.iconst 2, 1)) ∧ (decode cL_law 1110 = .ok (.iadd, 1)) ∧ (decode cL_law 1111 = .ok (.iaload, 1)) ∧ (decode cL_law 1112 = .ok (.invokevirtual 209, 3)) ∧ (decode cL_law 1115 = .ok (.istore 6, 2)) ∧ (decode cL_law 1117 = .ok (.goto 967, 3)) := by decide +kernel
theorem dL_law_1109 : decode cL_law 1109 = .ok (.iconst 2, 1) := gdL_law_1109.1
theorem dL_law_1110 : decode cL_law 1110 = .ok (.iadd, 1) := gdL_law_1109.2.1
theorem dL_law_1111 : decode cL_law 1111 = .ok (.iaload, 1) := gdL_law_1109.2.2.1
theorem dL_law_1112 : decode cL_law 1112 = .ok (.invokevirtual 209, 3) := gdL_law_1109.2.2.2.1
theorem dL_law_1115 : decode cL_law 1115 = .ok (.istore 6, 2) := gdL_law_1109.2.2.2.2.1
theorem dL_law_1117 : decode cL_law 1117 = .ok (.goto 967, 3) := gdL_law_1109.2.2.2.2.2
theorem gdL_law_1120 : (decode cL_law 1120 = .ok (.aload_n 1, 1)) ∧ (decode cL_law 1121 = .ok (.aload_n 0, 1)) ∧ (decode cL_law 1122 = .ok (.iload 4, 2)) ∧ (decode cL_law 1124 = .ok (.iconst 1, 1)) ∧ (decode cL_law 1125 = .ok (.iadd, 1)) ∧ (decode cL_law 1126 = .ok (.iaload, 1)) := by decide +kernel
theorem dL_law_1120 : decode cL_law 1120 = .ok (.aload_n 1, 1) := gdL_law_1120.1
theorem dL_law_1121 : decode cL_law 1121 = .ok (.aload_n 0, 1) := gdL_law_1120.2.1
theorem dL_law_1122 : decode cL_law 1122 = .ok (.iload 4, 2) := gdL_law_1120.2.2.1
theorem dL_law_1124 : decode cL_law 1124 = .ok (.iconst 1, 1) := gdL_law_1120.2.2.2.1
theorem dL_law_1125 : decode cL_law 1125 = .ok (.iadd, 1) := gdL_law_1120.2.2.2.2.1
theorem dL_law_1126 : decode cL_law 1126 = .ok (.iaload, 1) := gdL_law_1120.2.2.2.2.2
theorem gdL_law_1127 : (decode cL_law 1127 = .ok (.aload_n 0, 1)) ∧ (decode cL_law 1128 = .ok (.iload 4, 2)) ∧ (decode cL_law 1130 = .ok (.iconst 2, 1)) ∧ (decode cL_law 1131 = .ok (.iadd, 1)) ∧ (decode cL_law 1132 = .ok (.iaload, 1)) ∧ (decode cL_law 1133 = .ok (.aload_n 3, 1)) := by decide +kernel
theorem dL_law_1127 : decode cL_law 1127 = .ok (.aload_n 0, 1) := gdL_law_1127.1
theorem dL_law_1128 : decode cL_law 1128 = .ok (.iload 4, 2) := gdL_law_1127.2.1
theorem dL_law_1130 : decode cL_law 1130 = .ok (.iconst 2, 1) := gdL_law_1127.2.2.1
theorem dL_law_1131 : decode cL_law 1131 = .ok (.iadd, 1) := gdL_law_1127.2.2.2.1
theorem dL_law_1132 : decode cL_law 1132 = .ok (.iaload, 1) := gdL_law_1127.2.2.2.2.1
theorem dL_law_1133 : decode cL_law 1133 = .ok (.aload_n 3, 1) := gdL_law_1127.2.2.2.2.2
theorem gdL_law_1134 : (decode cL_law 1134 = .ok (.invokestatic 210, 3)) ∧ (decode cL_law 1137 = .ok (.istore 5, 2)) ∧ (decode cL_law 1139 = .ok (.aload_n 2, 1)) ∧ (decode cL_law 1140 = .ok (.aload_n 0, 1)) ∧ (decode cL_law 1141 = .ok (.iload 4, 2)) ∧ (decode cL_law 1143 = .ok (.iconst 1, 1)) := by decide +kernel
theorem dL_law_1134 : decode cL_law 1134 = .ok (.invokestatic 210, 3) := gdL_law_1134.1
theorem dL_law_1137 : decode cL_law 1137 = .ok (.istore 5, 2) := gdL_law_1134.2.1
theorem dL_law_1139 : decode cL_law 1139 = .ok (.aload_n 2, 1) := gdL_law_1134.2.2.1
theorem dL_law_1140 : decode cL_law 1140 = .ok (.aload_n 0, 1) := gdL_law_1134.2.2.2.1
theorem dL_law_1141 : decode cL_law 1141 = .ok (.iload 4, 2) := gdL_law_1134.2.2.2.2.1
theorem dL_law_1143 : decode cL_law 1143 = .ok (.iconst 1, 1) := gdL_law_1134.2.2.2.2.2
theorem gdL_law_1144 : (decode cL_law 1144 = .ok (.iadd, 1)) ∧ (decode cL_law 1145 = .ok (.iaload, 1)) ∧ (decode cL_law 1146 = .ok (.aload_n 0, 1)) ∧ (decode cL_law 1147 = .ok (.iload 4, 2)) ∧ (decode cL_law 1149 = .ok (.iconst 2, 1)) ∧ (decode cL_law 1150 = .ok (.iadd, 1)) := by decide +kernel
theorem dL_law_1144 : decode cL_law 1144 = .ok (.iadd, 1) := gdL_law_1144.1
theorem dL_law_1145 : decode cL_law 1145 = .ok (.iaload, 1) := gdL_law_1144.2.1
theorem dL_law_1146 : decode cL_law 1146 = .ok (.aload_n 0, 1) := gdL_law_1144.2.2.1
theorem dL_law_1147 : decode cL_law 1147 = .ok (.iload 4, 2) := gdL_law_1144.2.2.2.1
theorem dL_law_1149 : decode cL_law 1149 = .ok (.iconst 2, 1) := gdL_law_1144.2.2.2.2.1
theorem dL_law_1150 : decode cL_law 1150 = .ok (.iadd, 1) := gdL_law_1144.2.2.2.2.2
theorem gdL_law_1151 : (decode cL_law 1151 = .ok (.iaload, 1)) ∧ (decode cL_law 1152 = .ok (.invokevirtual 212, 3)) ∧ (decode cL_law 1155 = .ok (.istore 6, 2)) ∧ (decode cL_law 1157 = .ok (.goto 927, 3)) ∧ (decode cL_law 1160 = .ok (.aload_n 1, 1)) ∧ (decode cL_law 1161 = .ok (.aload_n 0, 1)) := by decide +kernel
theorem dL_law_1151 : decode cL_law 1151 = .ok (.iaload, 1) := gdL_law_1151.1
theorem dL_law_1152 : decode cL_law 1152 = .ok (.invokevirtual 212, 3) := gdL_law_1151.2.1
theorem dL_law_1155 : decode cL_law 1155 = .ok (.istore 6, 2) := gdL_law_1151.2.2.1
theorem dL_law_1157 : decode cL_law 1157 = .ok (.goto 927, 3) := gdL_law_1151.2.2.2.1
theorem dL_law_1160 : decode cL_law 1160 = .ok (.aload_n 1, 1) := gdL_law_1151.2.2.2.2.1
theorem dL_law_1161 : decode cL_law 1161 = .ok (.aload_n 0, 1) := gdL_law_1151.2.2.2.2.2
theorem gdL_law_1162 : (decode cL_law 1162 = .ok (.iload 4, 2)) ∧ (decode cL_law 1164 = .ok (.iconst 1, 1)) ∧ (decode cL_law 1165 = .ok (.iadd, 1)) ∧ (decode cL_law 1166 = .ok (.iaload, 1)) ∧ (decode cL_law 1167 = .ok (.aload_n 0, 1)) ∧ (decode cL_law 1168 = .ok (.iload 4, 2)) := by decide +kernel
theorem dL_law_1162 : decode cL_law 1162 = .ok (.iload 4, 2) := gdL_law_1162.1
theorem dL_law_1164 : decode cL_law 1164 = .ok (.iconst 1, 1) := gdL_law_1162.2.1
theorem dL_law_1165 : decode cL_law 1165 = .ok (.iadd, 1) := gdL_law_1162.2.2.1
theorem dL_law_1166 : decode cL_law 1166 = .ok (.iaload, 1) := gdL_law_1162.2.2.2.1
theorem dL_law_1167 : decode cL_law 1167 = .ok (.aload_n 0, 1) := gdL_law_1162.2.2.2.2.1
theorem dL_law_1168 : decode cL_law 1168 = .ok (.iload 4, 2) := gdL_law_1162.2.2.2.2.2
theorem gdL_law_1170 : (decode cL_law 1170 = .ok (.iconst 2, 1)) ∧ (decode cL_law 1171 = .ok (.iadd, 1)) ∧ (decode cL_law 1172 = .ok (.iaload, 1)) ∧ (decode cL_law 1173 = .ok (.aload_n 0, 1)) ∧ (decode cL_law 1174 = .ok (.iload 4, 2)) ∧ (decode cL_law 1176 = .ok (.iconst 3, 1)) := by decide +kernel
theorem dL_law_1170 : decode cL_law 1170 = .ok (.iconst 2, 1) := gdL_law_1170.1
theorem dL_law_1171 : decode cL_law 1171 = .ok (.iadd, 1) := gdL_law_1170.2.1
theorem dL_law_1172 : decode cL_law 1172 = .ok (.iaload, 1) := gdL_law_1170.2.2.1
theorem dL_law_1173 : decode cL_law 1173 = .ok (.aload_n 0, 1) := gdL_law_1170.2.2.2.1
theorem dL_law_1174 : decode cL_law 1174 = .ok (.iload 4, 2) := gdL_law_1170.2.2.2.2.1
theorem dL_law_1176 : decode cL_law 1176 = .ok (.iconst 3, 1) := gdL_law_1170.2.2.2.2.2
theorem gdL_law_1177 : (decode cL_law 1177 = .ok (.iadd, 1)) ∧ (decode cL_law 1178 = .ok (.iaload, 1)) ∧ (decode cL_law 1179 = .ok (.aload_n 3, 1)) ∧ (decode cL_law 1180 = .ok (.invokestatic 213, 3)) ∧ (decode cL_law 1183 = .ok (.istore 5, 2)) ∧ (decode cL_law 1185 = .ok (.aload_n 2, 1)) := by decide +kernel
theorem dL_law_1177 : decode cL_law 1177 = .ok (.iadd, 1) := gdL_law_1177.1
theorem dL_law_1178 : decode cL_law 1178 = .ok (.iaload, 1) := gdL_law_1177.2.1
theorem dL_law_1179 : decode cL_law 1179 = .ok (.aload_n 3, 1) := gdL_law_1177.2.2.1
theorem dL_law_1180 : decode cL_law 1180 = .ok (.invokestatic 213, 3) := gdL_law_1177.2.2.2.1
theorem dL_law_1183 : decode cL_law 1183 = .ok (.istore 5, 2) := gdL_law_1177.2.2.2.2.1
theorem dL_law_1185 : decode cL_law 1185 = .ok (.aload_n 2, 1) := gdL_law_1177.2.2.2.2.2
theorem gdL_law_1186 : (decode cL_law 1186 = .ok (.aload_n 0, 1)) ∧ (decode cL_law 1187 = .ok (.iload 4, 2)) ∧ (decode cL_law 1189 = .ok (.iconst 1, 1)) ∧ (decode cL_law 1190 = .ok (.iadd, 1)) ∧ (decode cL_law 1191 = .ok (.iaload, 1)) ∧ (decode cL_law 1192 = .ok (.aload_n 0, 1)) := by decide +kernel
theorem dL_law_1186 : decode cL_law 1186 = .ok (.aload_n 0, 1) := gdL_law_1186.1
theorem dL_law_1187 : decode cL_law 1187 = .ok (.iload 4, 2) := gdL_law_1186.2.1
theorem dL_law_1189 : decode cL_law 1189 = .ok (.iconst 1, 1) := gdL_law_1186.2.2.1
theorem dL_law_1190 : decode cL_law 1190 = .ok (.iadd, 1) := gdL_law_1186.2.2.2.1
theorem dL_law_1191 : decode cL_law 1191 = .ok (.iaload, 1) := gdL_law_1186.2.2.2.2.1
theorem dL_law_1192 : decode cL_law 1192 = .ok (.aload_n 0, 1) := gdL_law_1186.2.2.2.2.2
theorem gdL_law_1193 : (decode cL_law 1193 = .ok (.iload 4, 2)) ∧ (decode cL_law 1195 = .ok (.iconst 2, 1)) ∧ (decode cL_law 1196 = .ok (.iadd, 1)) ∧ (decode cL_law 1197 = .ok (.iaload, 1)) ∧ (decode cL_law 1198 = .ok (.aload_n 0, 1)) ∧ (decode cL_law 1199 = .ok (.iload 4, 2)) := by decide +kernel
theorem dL_law_1193 : decode cL_law 1193 = .ok (.iload 4, 2) := gdL_law_1193.1
theorem dL_law_1195 : decode cL_law 1195 = .ok (.iconst 2, 1) := gdL_law_1193.2.1
theorem dL_law_1196 : decode cL_law 1196 = .ok (.iadd, 1) := gdL_law_1193.2.2.1
theorem dL_law_1197 : decode cL_law 1197 = .ok (.iaload, 1) := gdL_law_1193.2.2.2.1
theorem dL_law_1198 : decode cL_law 1198 = .ok (.aload_n 0, 1) := gdL_law_1193.2.2.2.2.1
theorem dL_law_1199 : decode cL_law 1199 = .ok (.iload 4, 2) := gdL_law_1193.2.2.2.2.2
theorem gdL_law_1201 : (decode cL_law 1201 = .ok (.iconst 3, 1)) ∧ (decode cL_law 1202 = .ok (.iadd, 1)) ∧ (decode cL_law 1203 = .ok (.iaload, 1)) ∧ (decode cL_law 1204 = .ok (.invokevirtual 215, 3)) ∧ (decode cL_law 1207 = .ok (.istore 6, 2)) ∧ (decode cL_law 1209 = .ok (.goto 875, 3)) := by decide +kernel
theorem dL_law_1201 : decode cL_law 1201 = .ok (.iconst 3, 1) := gdL_law_1201.1
theorem dL_law_1202 : decode cL_law 1202 = .ok (.iadd, 1) := gdL_law_1201.2.1
theorem dL_law_1203 : decode cL_law 1203 = .ok (.iaload, 1) := gdL_law_1201.2.2.1
theorem dL_law_1204 : decode cL_law 1204 = .ok (.invokevirtual 215, 3) := gdL_law_1201.2.2.2.1
theorem dL_law_1207 : decode cL_law 1207 = .ok (.istore 6, 2) := gdL_law_1201.2.2.2.2.1
theorem dL_law_1209 : decode cL_law 1209 = .ok (.goto 875, 3) := gdL_law_1201.2.2.2.2.2
theorem gdL_law_1212 : (decode cL_law 1212 = .ok (.aload_n 1, 1)) ∧ (decode cL_law 1213 = .ok (.aload_n 0, 1)) ∧ (decode cL_law 1214 = .ok (.iload 4, 2)) ∧ (decode cL_law 1216 = .ok (.iconst 1, 1)) ∧ (decode cL_law 1217 = .ok (.iadd, 1)) ∧ (decode cL_law 1218 = .ok (.iaload, 1)) := by decide +kernel
theorem dL_law_1212 : decode cL_law 1212 = .ok (.aload_n 1, 1) := gdL_law_1212.1
theorem dL_law_1213 : decode cL_law 1213 = .ok (.aload_n 0, 1) := gdL_law_1212.2.1
theorem dL_law_1214 : decode cL_law 1214 = .ok (.iload 4, 2) := gdL_law_1212.2.2.1
theorem dL_law_1216 : decode cL_law 1216 = .ok (.iconst 1, 1) := gdL_law_1212.2.2.2.1
theorem dL_law_1217 : decode cL_law 1217 = .ok (.iadd, 1) := gdL_law_1212.2.2.2.2.1
theorem dL_law_1218 : decode cL_law 1218 = .ok (.iaload, 1) := gdL_law_1212.2.2.2.2.2
theorem gdL_law_1219 : (decode cL_law 1219 = .ok (.aload_n 0, 1)) ∧ (decode cL_law 1220 = .ok (.iload 4, 2)) ∧ (decode cL_law 1222 = .ok (.iconst 2, 1)) ∧ (decode cL_law 1223 = .ok (.iadd, 1)) ∧ (decode cL_law 1224 = .ok (.iaload, 1)) ∧ (decode cL_law 1225 = .ok (.aload_n 3, 1)) := by decide +kernel
theorem dL_law_1219 : decode cL_law 1219 = .ok (.aload_n 0, 1) := gdL_law_1219.1
theorem dL_law_1220 : decode cL_law 1220 = .ok (.iload 4, 2) := gdL_law_1219.2.1
theorem dL_law_1222 : decode cL_law 1222 = .ok (.iconst 2, 1) := gdL_law_1219.2.2.1
theorem dL_law_1223 : decode cL_law 1223 = .ok (.iadd, 1) := gdL_law_1219.2.2.2.1
theorem dL_law_1224 : decode cL_law 1224 = .ok (.iaload, 1) := gdL_law_1219.2.2.2.2.1
theorem dL_law_1225 : decode cL_law 1225 = .ok (.aload_n 3, 1) := gdL_law_1219.2.2.2.2.2
theorem gdL_law_1226 : (decode cL_law 1226 = .ok (.invokestatic 216, 3)) ∧ (decode cL_law 1229 = .ok (.istore 5, 2)) ∧ (decode cL_law 1231 = .ok (.aload_n 2, 1)) ∧ (decode cL_law 1232 = .ok (.aload_n 0, 1)) ∧ (decode cL_law 1233 = .ok (.iload 4, 2)) ∧ (decode cL_law 1235 = .ok (.iconst 1, 1)) := by decide +kernel
theorem dL_law_1226 : decode cL_law 1226 = .ok (.invokestatic 216, 3) := gdL_law_1226.1
theorem dL_law_1229 : decode cL_law 1229 = .ok (.istore 5, 2) := gdL_law_1226.2.1
theorem dL_law_1231 : decode cL_law 1231 = .ok (.aload_n 2, 1) := gdL_law_1226.2.2.1
theorem dL_law_1232 : decode cL_law 1232 = .ok (.aload_n 0, 1) := gdL_law_1226.2.2.2.1
theorem dL_law_1233 : decode cL_law 1233 = .ok (.iload 4, 2) := gdL_law_1226.2.2.2.2.1
theorem dL_law_1235 : decode cL_law 1235 = .ok (.iconst 1, 1) := gdL_law_1226.2.2.2.2.2
theorem gdL_law_1236 : (decode cL_law 1236 = .ok (.iadd, 1)) ∧ (decode cL_law 1237 = .ok (.iaload, 1)) ∧ (decode cL_law 1238 = .ok (.aload_n 0, 1)) ∧ (decode cL_law 1239 = .ok (.iload 4, 2)) ∧ (decode cL_law 1241 = .ok (.iconst 2, 1)) ∧ (decode cL_law 1242 = .ok (.iadd, 1)) := by decide +kernel
theorem dL_law_1236 : decode cL_law 1236 = .ok (.iadd, 1) := gdL_law_1236.1
theorem dL_law_1237 : decode cL_law 1237 = .ok (.iaload, 1) := gdL_law_1236.2.1
theorem dL_law_1238 : decode cL_law 1238 = .ok (.aload_n 0, 1) := gdL_law_1236.2.2.1
theorem dL_law_1239 : decode cL_law 1239 = .ok (.iload 4, 2) := gdL_law_1236.2.2.2.1
theorem dL_law_1241 : decode cL_law 1241 = .ok (.iconst 2, 1) := gdL_law_1236.2.2.2.2.1
theorem dL_law_1242 : decode cL_law 1242 = .ok (.iadd, 1) := gdL_law_1236.2.2.2.2.2
theorem gdL_law_1243 : (decode cL_law 1243 = .ok (.iaload, 1)) ∧ (decode cL_law 1244 = .ok (.invokevirtual 218, 3)) ∧ (decode cL_law 1247 = .ok (.istore 6, 2)) ∧ (decode cL_law 1249 = .ok (.goto 835, 3)) ∧ (decode cL_law 1252 = .ok (.aload_n 1, 1)) ∧ (decode cL_law 1253 = .ok (.aload_n 0, 1)) := by decide +kernel
theorem dL_law_1243 : decode cL_law 1243 = .ok (.iaload, 1) := gdL_law_1243.1
theorem dL_law_1244 : decode cL_law 1244 = .ok (.invokevirtual 218, 3) := gdL_law_1243.2.1
theorem dL_law_1247 : decode cL_law 1247 = .ok (.istore 6, 2) := gdL_law_1243.2.2.1
theorem dL_law_1249 : decode cL_law 1249 = .ok (.goto 835, 3) := gdL_law_1243.2.2.2.1
theorem dL_law_1252 : decode cL_law 1252 = .ok (.aload_n 1, 1) := gdL_law_1243.2.2.2.2.1
theorem dL_law_1253 : decode cL_law 1253 = .ok (.aload_n 0, 1) := gdL_law_1243.2.2.2.2.2
theorem gdL_law_1254 : (decode cL_law 1254 = .ok (.iload 4, 2)) ∧ (decode cL_law 1256 = .ok (.iconst 1, 1)) ∧ (decode cL_law 1257 = .ok (.iadd, 1)) ∧ (decode cL_law 1258 = .ok (.iaload, 1)) ∧ (decode cL_law 1259 = .ok (.aload_n 0, 1)) ∧ (decode cL_law 1260 = .ok (.iload 4, 2)) := by decide +kernel
theorem dL_law_1254 : decode cL_law 1254 = .ok (.iload 4, 2) := gdL_law_1254.1
theorem dL_law_1256 : decode cL_law 1256 = .ok (.iconst 1, 1) := gdL_law_1254.2.1
theorem dL_law_1257 : decode cL_law 1257 = .ok (.iadd, 1) := gdL_law_1254.2.2.1
theorem dL_law_1258 : decode cL_law 1258 = .ok (.iaload, 1) := gdL_law_1254.2.2.2.1
theorem dL_law_1259 : decode cL_law 1259 = .ok (.aload_n 0, 1) := gdL_law_1254.2.2.2.2.1
theorem dL_law_1260 : decode cL_law 1260 = .ok (.iload 4, 2) := gdL_law_1254.2.2.2.2.2
theorem gdL_law_1262 : (decode cL_law 1262 = .ok (.iconst 2, 1)) ∧ (decode cL_law 1263 = .ok (.iadd, 1)) ∧ (decode cL_law 1264 = .ok (.iaload, 1)) ∧ (decode cL_law 1265 = .ok (.aload_n 0, 1)) ∧ (decode cL_law 1266 = .ok (.iload 4, 2)) ∧ (decode cL_law 1268 = .ok (.iconst 3, 1)) := by decide +kernel
theorem dL_law_1262 : decode cL_law 1262 = .ok (.iconst 2, 1) := gdL_law_1262.1
theorem dL_law_1263 : decode cL_law 1263 = .ok (.iadd, 1) := gdL_law_1262.2.1
theorem dL_law_1264 : decode cL_law 1264 = .ok (.iaload, 1) := gdL_law_1262.2.2.1
theorem dL_law_1265 : decode cL_law 1265 = .ok (.aload_n 0, 1) := gdL_law_1262.2.2.2.1
theorem dL_law_1266 : decode cL_law 1266 = .ok (.iload 4, 2) := gdL_law_1262.2.2.2.2.1
theorem dL_law_1268 : decode cL_law 1268 = .ok (.iconst 3, 1) := gdL_law_1262.2.2.2.2.2
theorem gdL_law_1269 : (decode cL_law 1269 = .ok (.iadd, 1)) ∧ (decode cL_law 1270 = .ok (.iaload, 1)) ∧ (decode cL_law 1271 = .ok (.aload_n 3, 1)) ∧ (decode cL_law 1272 = .ok (.invokestatic 219, 3)) ∧ (decode cL_law 1275 = .ok (.istore 5, 2)) ∧ (decode cL_law 1277 = .ok (.aload_n 2, 1)) := by decide +kernel
theorem dL_law_1269 : decode cL_law 1269 = .ok (.iadd, 1) := gdL_law_1269.1
theorem dL_law_1270 : decode cL_law 1270 = .ok (.iaload, 1) := gdL_law_1269.2.1
theorem dL_law_1271 : decode cL_law 1271 = .ok (.aload_n 3, 1) := gdL_law_1269.2.2.1
theorem dL_law_1272 : decode cL_law 1272 = .ok (.invokestatic 219, 3) := gdL_law_1269.2.2.2.1
theorem dL_law_1275 : decode cL_law 1275 = .ok (.istore 5, 2) := gdL_law_1269.2.2.2.2.1
theorem dL_law_1277 : decode cL_law 1277 = .ok (.aload_n 2, 1) := gdL_law_1269.2.2.2.2.2
theorem gdL_law_1278 : (decode cL_law 1278 = .ok (.aload_n 0, 1)) ∧ (decode cL_law 1279 = .ok (.iload 4, 2)) ∧ (decode cL_law 1281 = .ok (.iconst 1, 1)) ∧ (decode cL_law 1282 = .ok (.iadd, 1)) ∧ (decode cL_law 1283 = .ok (.iaload, 1)) ∧ (decode cL_law 1284 = .ok (.aload_n 0, 1)) := by decide +kernel
theorem dL_law_1278 : decode cL_law 1278 = .ok (.aload_n 0, 1) := gdL_law_1278.1
theorem dL_law_1279 : decode cL_law 1279 = .ok (.iload 4, 2) := gdL_law_1278.2.1
theorem dL_law_1281 : decode cL_law 1281 = .ok (.iconst 1, 1) := gdL_law_1278.2.2.1
theorem dL_law_1282 : decode cL_law 1282 = .ok (.iadd, 1) := gdL_law_1278.2.2.2.1
theorem dL_law_1283 : decode cL_law 1283 = .ok (.iaload, 1) := gdL_law_1278.2.2.2.2.1
theorem dL_law_1284 : decode cL_law 1284 = .ok (.aload_n 0, 1) := gdL_law_1278.2.2.2.2.2
theorem gdL_law_1285 : (decode cL_law 1285 = .ok (.iload 4, 2)) ∧ (decode cL_law 1287 = .ok (.iconst 2, 1)) ∧ (decode cL_law 1288 = .ok (.iadd, 1)) ∧ (decode cL_law 1289 = .ok (.iaload, 1)) ∧ (decode cL_law 1290 = .ok (.aload_n 0, 1)) ∧ (decode cL_law 1291 = .ok (.iload 4, 2)) := by decide +kernel
theorem dL_law_1285 : decode cL_law 1285 = .ok (.iload 4, 2) := gdL_law_1285.1
theorem dL_law_1287 : decode cL_law 1287 = .ok (.iconst 2, 1) := gdL_law_1285.2.1
theorem dL_law_1288 : decode cL_law 1288 = .ok (.iadd, 1) := gdL_law_1285.2.2.1
theorem dL_law_1289 : decode cL_law 1289 = .ok (.iaload, 1) := gdL_law_1285.2.2.2.1
theorem dL_law_1290 : decode cL_law 1290 = .ok (.aload_n 0, 1) := gdL_law_1285.2.2.2.2.1
theorem dL_law_1291 : decode cL_law 1291 = .ok (.iload 4, 2) := gdL_law_1285.2.2.2.2.2
theorem gdL_law_1293 : (decode cL_law 1293 = .ok (.iconst 3, 1)) ∧ (decode cL_law 1294 = .ok (.iadd, 1)) ∧ (decode cL_law 1295 = .ok (.iaload, 1)) ∧ (decode cL_law 1296 = .ok (.invokevirtual 221, 3)) ∧ (decode cL_law 1299 = .ok (.istore 6, 2)) ∧ (decode cL_law 1301 = .ok (.goto 783, 3)) := by decide +kernel
theorem dL_law_1293 : decode cL_law 1293 = .ok (.iconst 3, 1) := gdL_law_1293.1
theorem dL_law_1294 : decode cL_law 1294 = .ok (.iadd, 1) := gdL_law_1293.2.1
theorem dL_law_1295 : decode cL_law 1295 = .ok (.iaload, 1) := gdL_law_1293.2.2.1
theorem dL_law_1296 : decode cL_law 1296 = .ok (.invokevirtual 221, 3) := gdL_law_1293.2.2.2.1
theorem dL_law_1299 : decode cL_law 1299 = .ok (.istore 6, 2) := gdL_law_1293.2.2.2.2.1
theorem dL_law_1301 : decode cL_law 1301 = .ok (.goto 783, 3) := gdL_law_1293.2.2.2.2.2
theorem gdL_law_1304 : (decode cL_law 1304 = .ok (.aload_n 1, 1)) ∧ (decode cL_law 1305 = .ok (.aload_n 0, 1)) ∧ (decode cL_law 1306 = .ok (.iload 4, 2)) ∧ (decode cL_law 1308 = .ok (.iconst 1, 1)) ∧ (decode cL_law 1309 = .ok (.iadd, 1)) ∧ (decode cL_law 1310 = .ok (.iaload, 1)) := by decide +kernel
theorem dL_law_1304 : decode cL_law 1304 = .ok (.aload_n 1, 1) := gdL_law_1304.1
theorem dL_law_1305 : decode cL_law 1305 = .ok (.aload_n 0, 1) := gdL_law_1304.2.1
theorem dL_law_1306 : decode cL_law 1306 = .ok (.iload 4, 2) := gdL_law_1304.2.2.1
theorem dL_law_1308 : decode cL_law 1308 = .ok (.iconst 1, 1) := gdL_law_1304.2.2.2.1
theorem dL_law_1309 : decode cL_law 1309 = .ok (.iadd, 1) := gdL_law_1304.2.2.2.2.1
theorem dL_law_1310 : decode cL_law 1310 = .ok (.iaload, 1) := gdL_law_1304.2.2.2.2.2
theorem gdL_law_1311 : (decode cL_law 1311 = .ok (.aload_n 0, 1)) ∧ (decode cL_law 1312 = .ok (.iload 4, 2)) ∧ (decode cL_law 1314 = .ok (.iconst 2, 1)) ∧ (decode cL_law 1315 = .ok (.iadd, 1)) ∧ (decode cL_law 1316 = .ok (.iaload, 1)) ∧ (decode cL_law 1317 = .ok (.aload_n 0, 1)) := by decide +kernel
theorem dL_law_1311 : decode cL_law 1311 = .ok (.aload_n 0, 1) := gdL_law_1311.1
theorem dL_law_1312 : decode cL_law 1312 = .ok (.iload 4, 2) := gdL_law_1311.2.1
theorem dL_law_1314 : decode cL_law 1314 = .ok (.iconst 2, 1) := gdL_law_1311.2.2.1
theorem dL_law_1315 : decode cL_law 1315 = .ok (.iadd, 1) := gdL_law_1311.2.2.2.1
theorem dL_law_1316 : decode cL_law 1316 = .ok (.iaload, 1) := gdL_law_1311.2.2.2.2.1
theorem dL_law_1317 : decode cL_law 1317 = .ok (.aload_n 0, 1) := gdL_law_1311.2.2.2.2.2
theorem gdL_law_1318 : (decode cL_law 1318 = .ok (.iload 4, 2)) ∧ (decode cL_law 1320 = .ok (.iconst 3, 1)) ∧ (decode cL_law 1321 = .ok (.iadd, 1)) ∧ (decode cL_law 1322 = .ok (.iaload, 1)) ∧ (decode cL_law 1323 = .ok (.aload_n 3, 1)) ∧ (decode cL_law 1324 = .ok (.invokestatic 222, 3)) := by decide +kernel
theorem dL_law_1318 : decode cL_law 1318 = .ok (.iload 4, 2) := gdL_law_1318.1
theorem dL_law_1320 : decode cL_law 1320 = .ok (.iconst 3, 1) := gdL_law_1318.2.1
theorem dL_law_1321 : decode cL_law 1321 = .ok (.iadd, 1) := gdL_law_1318.2.2.1
theorem dL_law_1322 : decode cL_law 1322 = .ok (.iaload, 1) := gdL_law_1318.2.2.2.1
theorem dL_law_1323 : decode cL_law 1323 = .ok (.aload_n 3, 1) := gdL_law_1318.2.2.2.2.1
theorem dL_law_1324 : decode cL_law 1324 = .ok (.invokestatic 222, 3) := gdL_law_1318.2.2.2.2.2
theorem gdL_law_1327 : (decode cL_law 1327 = .ok (.istore 5, 2)) ∧ (decode cL_law 1329 = .ok (.aload_n 2, 1)) ∧ (decode cL_law 1330 = .ok (.aload_n 0, 1)) ∧ (decode cL_law 1331 = .ok (.iload 4, 2)) ∧ (decode cL_law 1333 = .ok (.iconst 1, 1)) ∧ (decode cL_law 1334 = .ok (.iadd, 1)) := by decide +kernel
theorem dL_law_1327 : decode cL_law 1327 = .ok (.istore 5, 2) := gdL_law_1327.1
theorem dL_law_1329 : decode cL_law 1329 = .ok (.aload_n 2, 1) := gdL_law_1327.2.1
theorem dL_law_1330 : decode cL_law 1330 = .ok (.aload_n 0, 1) := gdL_law_1327.2.2.1
theorem dL_law_1331 : decode cL_law 1331 = .ok (.iload 4, 2) := gdL_law_1327.2.2.2.1
theorem dL_law_1333 : decode cL_law 1333 = .ok (.iconst 1, 1) := gdL_law_1327.2.2.2.2.1
theorem dL_law_1334 : decode cL_law 1334 = .ok (.iadd, 1) := gdL_law_1327.2.2.2.2.2
theorem gdL_law_1335 : (decode cL_law 1335 = .ok (.iaload, 1)) ∧ (decode cL_law 1336 = .ok (.aload_n 0, 1)) ∧ (decode cL_law 1337 = .ok (.iload 4, 2)) ∧ (decode cL_law 1339 = .ok (.iconst 2, 1)) ∧ (decode cL_law 1340 = .ok (.iadd, 1)) ∧ (decode cL_law 1341 = .ok (.iaload, 1)) := by decide +kernel
theorem dL_law_1335 : decode cL_law 1335 = .ok (.iaload, 1) := gdL_law_1335.1
theorem dL_law_1336 : decode cL_law 1336 = .ok (.aload_n 0, 1) := gdL_law_1335.2.1
theorem dL_law_1337 : decode cL_law 1337 = .ok (.iload 4, 2) := gdL_law_1335.2.2.1
theorem dL_law_1339 : decode cL_law 1339 = .ok (.iconst 2, 1) := gdL_law_1335.2.2.2.1
theorem dL_law_1340 : decode cL_law 1340 = .ok (.iadd, 1) := gdL_law_1335.2.2.2.2.1
theorem dL_law_1341 : decode cL_law 1341 = .ok (.iaload, 1) := gdL_law_1335.2.2.2.2.2
theorem gdL_law_1342 : (decode cL_law 1342 = .ok (.aload_n 0, 1)) ∧ (decode cL_law 1343 = .ok (.iload 4, 2)) ∧ (decode cL_law 1345 = .ok (.iconst 3, 1)) ∧ (decode cL_law 1346 = .ok (.iadd, 1)) ∧ (decode cL_law 1347 = .ok (.iaload, 1)) ∧ (decode cL_law 1348 = .ok (.invokevirtual 224, 3)) := by decide +kernel
theorem dL_law_1342 : decode cL_law 1342 = .ok (.aload_n 0, 1) := gdL_law_1342.1
theorem dL_law_1343 : decode cL_law 1343 = .ok (.iload 4, 2) := gdL_law_1342.2.1
theorem dL_law_1345 : decode cL_law 1345 = .ok (.iconst 3, 1) := gdL_law_1342.2.2.1
theorem dL_law_1346 : decode cL_law 1346 = .ok (.iadd, 1) := gdL_law_1342.2.2.2.1
theorem dL_law_1347 : decode cL_law 1347 = .ok (.iaload, 1) := gdL_law_1342.2.2.2.2.1
theorem dL_law_1348 : decode cL_law 1348 = .ok (.invokevirtual 224, 3) := gdL_law_1342.2.2.2.2.2
theorem gdL_law_1351 : (decode cL_law 1351 = .ok (.istore 6, 2)) ∧ (decode cL_law 1353 = .ok (.goto 731, 3)) ∧ (decode cL_law 1356 = .ok (.aload_n 1, 1)) ∧ (decode cL_law 1357 = .ok (.aload_n 0, 1)) ∧ (decode cL_law 1358 = .ok (.iload 4, 2)) ∧ (decode cL_law 1360 = .ok (.iconst 1, 1)) := by decide +kernel
theorem dL_law_1351 : decode cL_law 1351 = .ok (.istore 6, 2) := gdL_law_1351.1
theorem dL_law_1353 : decode cL_law 1353 = .ok (.goto 731, 3) := gdL_law_1351.2.1
theorem dL_law_1356 : decode cL_law 1356 = .ok (.aload_n 1, 1) := gdL_law_1351.2.2.1
theorem dL_law_1357 : decode cL_law 1357 = .ok (.aload_n 0, 1) := gdL_law_1351.2.2.2.1
theorem dL_law_1358 : decode cL_law 1358 = .ok (.iload 4, 2) := gdL_law_1351.2.2.2.2.1
theorem dL_law_1360 : decode cL_law 1360 = .ok (.iconst 1, 1) := gdL_law_1351.2.2.2.2.2
theorem gdL_law_1361 : (decode cL_law 1361 = .ok (.iadd, 1)) ∧ (decode cL_law 1362 = .ok (.iaload, 1)) ∧ (decode cL_law 1363 = .ok (.aload_n 0, 1)) ∧ (decode cL_law 1364 = .ok (.iload 4, 2)) ∧ (decode cL_law 1366 = .ok (.iconst 2, 1)) ∧ (decode cL_law 1367 = .ok (.iadd, 1)) := by decide +kernel
theorem dL_law_1361 : decode cL_law 1361 = .ok (.iadd, 1) := gdL_law_1361.1
theorem dL_law_1362 : decode cL_law 1362 = .ok (.iaload, 1) := gdL_law_1361.2.1
theorem dL_law_1363 : decode cL_law 1363 = .ok (.aload_n 0, 1) := gdL_law_1361.2.2.1
theorem dL_law_1364 : decode cL_law 1364 = .ok (.iload 4, 2) := gdL_law_1361.2.2.2.1
theorem dL_law_1366 : decode cL_law 1366 = .ok (.iconst 2, 1) := gdL_law_1361.2.2.2.2.1
theorem dL_law_1367 : decode cL_law 1367 = .ok (.iadd, 1) := gdL_law_1361.2.2.2.2.2
theorem gdL_law_1368 : (decode cL_law 1368 = .ok (.iaload, 1)) ∧ (decode cL_law 1369 = .ok (.aload_n 3, 1)) ∧ (decode cL_law 1370 = .ok (.invokestatic 225, 3)) ∧ (decode cL_law 1373 = .ok (.istore 5, 2)) ∧ (decode cL_law 1375 = .ok (.aload_n 2, 1)) ∧ (decode cL_law 1376 = .ok (.aload_n 0, 1)) := by decide +kernel
theorem dL_law_1368 : decode cL_law 1368 = .ok (.iaload, 1) := gdL_law_1368.1
theorem dL_law_1369 : decode cL_law 1369 = .ok (.aload_n 3, 1) := gdL_law_1368.2.1
theorem dL_law_1370 : decode cL_law 1370 = .ok (.invokestatic 225, 3) := gdL_law_1368.2.2.1
theorem dL_law_1373 : decode cL_law 1373 = .ok (.istore 5, 2) := gdL_law_1368.2.2.2.1
theorem dL_law_1375 : decode cL_law 1375 = .ok (.aload_n 2, 1) := gdL_law_1368.2.2.2.2.1
theorem dL_law_1376 : decode cL_law 1376 = .ok (.aload_n 0, 1) := gdL_law_1368.2.2.2.2.2
theorem gdL_law_1377 : (decode cL_law 1377 = .ok (.iload 4, 2)) ∧ (decode cL_law 1379 = .ok (.iconst 1, 1)) ∧ (decode cL_law 1380 = .ok (.iadd, 1)) ∧ (decode cL_law 1381 = .ok (.iaload, 1)) ∧ (decode cL_law 1382 = .ok (.aload_n 0, 1)) ∧ (decode cL_law 1383 = .ok (.iload 4, 2)) := by decide +kernel
theorem dL_law_1377 : decode cL_law 1377 = .ok (.iload 4, 2) := gdL_law_1377.1
theorem dL_law_1379 : decode cL_law 1379 = .ok (.iconst 1, 1) := gdL_law_1377.2.1
theorem dL_law_1380 : decode cL_law 1380 = .ok (.iadd, 1) := gdL_law_1377.2.2.1
theorem dL_law_1381 : decode cL_law 1381 = .ok (.iaload, 1) := gdL_law_1377.2.2.2.1
theorem dL_law_1382 : decode cL_law 1382 = .ok (.aload_n 0, 1) := gdL_law_1377.2.2.2.2.1
theorem dL_law_1383 : decode cL_law 1383 = .ok (.iload 4, 2) := gdL_law_1377.2.2.2.2.2
theorem gdL_law_1385 : (decode cL_law 1385 = .ok (.iconst 2, 1)) ∧ (decode cL_law 1386 = .ok (.iadd, 1)) ∧ (decode cL_law 1387 = .ok (.iaload, 1)) ∧ (decode cL_law 1388 = .ok (.invokevirtual 227, 3)) ∧ (decode cL_law 1391 = .ok (.istore 6, 2)) ∧ (decode cL_law 1393 = .ok (.goto 691, 3)) := by decide +kernel
theorem dL_law_1385 : decode cL_law 1385 = .ok (.iconst 2, 1) := gdL_law_1385.1
theorem dL_law_1386 : decode cL_law 1386 = .ok (.iadd, 1) := gdL_law_1385.2.1
theorem dL_law_1387 : decode cL_law 1387 = .ok (.iaload, 1) := gdL_law_1385.2.2.1
theorem dL_law_1388 : decode cL_law 1388 = .ok (.invokevirtual 227, 3) := gdL_law_1385.2.2.2.1
theorem dL_law_1391 : decode cL_law 1391 = .ok (.istore 6, 2) := gdL_law_1385.2.2.2.2.1
theorem dL_law_1393 : decode cL_law 1393 = .ok (.goto 691, 3) := gdL_law_1385.2.2.2.2.2
theorem gdL_law_1396 : (decode cL_law 1396 = .ok (.aload_n 1, 1)) ∧ (decode cL_law 1397 = .ok (.aload_n 0, 1)) ∧ (decode cL_law 1398 = .ok (.iload 4, 2)) ∧ (decode cL_law 1400 = .ok (.iconst 1, 1)) ∧ (decode cL_law 1401 = .ok (.iadd, 1)) ∧ (decode cL_law 1402 = .ok (.iaload, 1)) := by decide +kernel
theorem dL_law_1396 : decode cL_law 1396 = .ok (.aload_n 1, 1) := gdL_law_1396.1
theorem dL_law_1397 : decode cL_law 1397 = .ok (.aload_n 0, 1) := gdL_law_1396.2.1
theorem dL_law_1398 : decode cL_law 1398 = .ok (.iload 4, 2) := gdL_law_1396.2.2.1
theorem dL_law_1400 : decode cL_law 1400 = .ok (.iconst 1, 1) := gdL_law_1396.2.2.2.1
theorem dL_law_1401 : decode cL_law 1401 = .ok (.iadd, 1) := gdL_law_1396.2.2.2.2.1
theorem dL_law_1402 : decode cL_law 1402 = .ok (.iaload, 1) := gdL_law_1396.2.2.2.2.2
theorem gdL_law_1403 : (decode cL_law 1403 = .ok (.aload_n 0, 1)) ∧ (decode cL_law 1404 = .ok (.iload 4, 2)) ∧ (decode cL_law 1406 = .ok (.iconst 2, 1)) ∧ (decode cL_law 1407 = .ok (.iadd, 1)) ∧ (decode cL_law 1408 = .ok (.iaload, 1)) ∧ (decode cL_law 1409 = .ok (.aload_n 3, 1)) := by decide +kernel
theorem dL_law_1403 : decode cL_law 1403 = .ok (.aload_n 0, 1) := gdL_law_1403.1
theorem dL_law_1404 : decode cL_law 1404 = .ok (.iload 4, 2) := gdL_law_1403.2.1
theorem dL_law_1406 : decode cL_law 1406 = .ok (.iconst 2, 1) := gdL_law_1403.2.2.1
theorem dL_law_1407 : decode cL_law 1407 = .ok (.iadd, 1) := gdL_law_1403.2.2.2.1
theorem dL_law_1408 : decode cL_law 1408 = .ok (.iaload, 1) := gdL_law_1403.2.2.2.2.1
theorem dL_law_1409 : decode cL_law 1409 = .ok (.aload_n 3, 1) := gdL_law_1403.2.2.2.2.2
theorem gdL_law_1410 : (decode cL_law 1410 = .ok (.invokestatic 228, 3)) ∧ (decode cL_law 1413 = .ok (.istore 5, 2)) ∧ (decode cL_law 1415 = .ok (.aload_n 2, 1)) ∧ (decode cL_law 1416 = .ok (.aload_n 0, 1)) ∧ (decode cL_law 1417 = .ok (.iload 4, 2)) ∧ (decode cL_law 1419 = .ok (.iconst 1, 1)) := by decide +kernel
theorem dL_law_1410 : decode cL_law 1410 = .ok (.invokestatic 228, 3) := gdL_law_1410.1
theorem dL_law_1413 : decode cL_law 1413 = .ok (.istore 5, 2) := gdL_law_1410.2.1
theorem dL_law_1415 : decode cL_law 1415 = .ok (.aload_n 2, 1) := gdL_law_1410.2.2.1
theorem dL_law_1416 : decode cL_law 1416 = .ok (.aload_n 0, 1) := gdL_law_1410.2.2.2.1
theorem dL_law_1417 : decode cL_law 1417 = .ok (.iload 4, 2) := gdL_law_1410.2.2.2.2.1
theorem dL_law_1419 : decode cL_law 1419 = .ok (.iconst 1, 1) := gdL_law_1410.2.2.2.2.2
theorem gdL_law_1420 : (decode cL_law 1420 = .ok (.iadd, 1)) ∧ (decode cL_law 1421 = .ok (.iaload, 1)) ∧ (decode cL_law 1422 = .ok (.aload_n 0, 1)) ∧ (decode cL_law 1423 = .ok (.iload 4, 2)) ∧ (decode cL_law 1425 = .ok (.iconst 2, 1)) ∧ (decode cL_law 1426 = .ok (.iadd, 1)) := by decide +kernel
theorem dL_law_1420 : decode cL_law 1420 = .ok (.iadd, 1) := gdL_law_1420.1
theorem dL_law_1421 : decode cL_law 1421 = .ok (.iaload, 1) := gdL_law_1420.2.1
theorem dL_law_1422 : decode cL_law 1422 = .ok (.aload_n 0, 1) := gdL_law_1420.2.2.1
theorem dL_law_1423 : decode cL_law 1423 = .ok (.iload 4, 2) := gdL_law_1420.2.2.2.1
theorem dL_law_1425 : decode cL_law 1425 = .ok (.iconst 2, 1) := gdL_law_1420.2.2.2.2.1
theorem dL_law_1426 : decode cL_law 1426 = .ok (.iadd, 1) := gdL_law_1420.2.2.2.2.2
theorem gdL_law_1427 : (decode cL_law 1427 = .ok (.iaload, 1)) ∧ (decode cL_law 1428 = .ok (.invokevirtual 230, 3)) ∧ (decode cL_law 1431 = .ok (.istore 6, 2)) ∧ (decode cL_law 1433 = .ok (.goto 651, 3)) ∧ (decode cL_law 1436 = .ok (.aload_n 1, 1)) ∧ (decode cL_law 1437 = .ok (.aload_n 0, 1)) := by decide +kernel
theorem dL_law_1427 : decode cL_law 1427 = .ok (.iaload, 1) := gdL_law_1427.1
theorem dL_law_1428 : decode cL_law 1428 = .ok (.invokevirtual 230, 3) := gdL_law_1427.2.1
theorem dL_law_1431 : decode cL_law 1431 = .ok (.istore 6, 2) := gdL_law_1427.2.2.1
theorem dL_law_1433 : decode cL_law 1433 = .ok (.goto 651, 3) := gdL_law_1427.2.2.2.1
theorem dL_law_1436 : decode cL_law 1436 = .ok (.aload_n 1, 1) := gdL_law_1427.2.2.2.2.1
theorem dL_law_1437 : decode cL_law 1437 = .ok (.aload_n 0, 1) := gdL_law_1427.2.2.2.2.2
theorem gdL_law_1438 : (decode cL_law 1438 = .ok (.iload 4, 2)) ∧ (decode cL_law 1440 = .ok (.iconst 1, 1)) ∧ (decode cL_law 1441 = .ok (.iadd, 1)) ∧ (decode cL_law 1442 = .ok (.iaload, 1)) ∧ (decode cL_law 1443 = .ok (.aload_n 0, 1)) ∧ (decode cL_law 1444 = .ok (.iload 4, 2)) := by decide +kernel
theorem dL_law_1438 : decode cL_law 1438 = .ok (.iload 4, 2) := gdL_law_1438.1
theorem dL_law_1440 : decode cL_law 1440 = .ok (.iconst 1, 1) := gdL_law_1438.2.1
theorem dL_law_1441 : decode cL_law 1441 = .ok (.iadd, 1) := gdL_law_1438.2.2.1
theorem dL_law_1442 : decode cL_law 1442 = .ok (.iaload, 1) := gdL_law_1438.2.2.2.1
theorem dL_law_1443 : decode cL_law 1443 = .ok (.aload_n 0, 1) := gdL_law_1438.2.2.2.2.1
theorem dL_law_1444 : decode cL_law 1444 = .ok (.iload 4, 2) := gdL_law_1438.2.2.2.2.2
theorem gdL_law_1446 : (decode cL_law 1446 = .ok (.iconst 2, 1)) ∧ (decode cL_law 1447 = .ok (.iadd, 1)) ∧ (decode cL_law 1448 = .ok (.iaload, 1)) ∧ (decode cL_law 1449 = .ok (.aload_n 3, 1)) ∧ (decode cL_law 1450 = .ok (.invokestatic 231, 3)) ∧ (decode cL_law 1453 = .ok (.istore 5, 2)) := by decide +kernel
theorem dL_law_1446 : decode cL_law 1446 = .ok (.iconst 2, 1) := gdL_law_1446.1
theorem dL_law_1447 : decode cL_law 1447 = .ok (.iadd, 1) := gdL_law_1446.2.1
theorem dL_law_1448 : decode cL_law 1448 = .ok (.iaload, 1) := gdL_law_1446.2.2.1
theorem dL_law_1449 : decode cL_law 1449 = .ok (.aload_n 3, 1) := gdL_law_1446.2.2.2.1
theorem dL_law_1450 : decode cL_law 1450 = .ok (.invokestatic 231, 3) := gdL_law_1446.2.2.2.2.1
theorem dL_law_1453 : decode cL_law 1453 = .ok (.istore 5, 2) := gdL_law_1446.2.2.2.2.2
theorem gdL_law_1455 : (decode cL_law 1455 = .ok (.aload_n 2, 1)) ∧ (decode cL_law 1456 = .ok (.aload_n 0, 1)) ∧ (decode cL_law 1457 = .ok (.iload 4, 2)) ∧ (decode cL_law 1459 = .ok (.iconst 1, 1)) ∧ (decode cL_law 1460 = .ok (.iadd, 1)) ∧ (decode cL_law 1461 = .ok (.iaload, 1)) := by decide +kernel
theorem dL_law_1455 : decode cL_law 1455 = .ok (.aload_n 2, 1) := gdL_law_1455.1
theorem dL_law_1456 : decode cL_law 1456 = .ok (.aload_n 0, 1) := gdL_law_1455.2.1
theorem dL_law_1457 : decode cL_law 1457 = .ok (.iload 4, 2) := gdL_law_1455.2.2.1
theorem dL_law_1459 : decode cL_law 1459 = .ok (.iconst 1, 1) := gdL_law_1455.2.2.2.1
theorem dL_law_1460 : decode cL_law 1460 = .ok (.iadd, 1) := gdL_law_1455.2.2.2.2.1
theorem dL_law_1461 : decode cL_law 1461 = .ok (.iaload, 1) := gdL_law_1455.2.2.2.2.2
theorem gdL_law_1462 : (decode cL_law 1462 = .ok (.aload_n 0, 1)) ∧ (decode cL_law 1463 = .ok (.iload 4, 2)) ∧ (decode cL_law 1465 = .ok (.iconst 2, 1)) ∧ (decode cL_law 1466 = .ok (.iadd, 1)) ∧ (decode cL_law 1467 = .ok (.iaload, 1)) ∧ (decode cL_law 1468 = .ok (.invokevirtual 233, 3)) := by decide +kernel
theorem dL_law_1462 : decode cL_law 1462 = .ok (.aload_n 0, 1) := gdL_law_1462.1
theorem dL_law_1463 : decode cL_law 1463 = .ok (.iload 4, 2) := gdL_law_1462.2.1
theorem dL_law_1465 : decode cL_law 1465 = .ok (.iconst 2, 1) := gdL_law_1462.2.2.1
theorem dL_law_1466 : decode cL_law 1466 = .ok (.iadd, 1) := gdL_law_1462.2.2.2.1
theorem dL_law_1467 : decode cL_law 1467 = .ok (.iaload, 1) := gdL_law_1462.2.2.2.2.1
theorem dL_law_1468 : decode cL_law 1468 = .ok (.invokevirtual 233, 3) := gdL_law_1462.2.2.2.2.2
theorem gdL_law_1471 : (decode cL_law 1471 = .ok (.istore 6, 2)) ∧ (decode cL_law 1473 = .ok (.goto 611, 3)) ∧ (decode cL_law 1476 = .ok (.aload_n 1, 1)) ∧ (decode cL_law 1477 = .ok (.aload_n 0, 1)) ∧ (decode cL_law 1478 = .ok (.iload 4, 2)) ∧ (decode cL_law 1480 = .ok (.iconst 1, 1)) := by decide +kernel
theorem dL_law_1471 : decode cL_law 1471 = .ok (.istore 6, 2) := gdL_law_1471.1
theorem dL_law_1473 : decode cL_law 1473 = .ok (.goto 611, 3) := gdL_law_1471.2.1
theorem dL_law_1476 : decode cL_law 1476 = .ok (.aload_n 1, 1) := gdL_law_1471.2.2.1
theorem dL_law_1477 : decode cL_law 1477 = .ok (.aload_n 0, 1) := gdL_law_1471.2.2.2.1
theorem dL_law_1478 : decode cL_law 1478 = .ok (.iload 4, 2) := gdL_law_1471.2.2.2.2.1
theorem dL_law_1480 : decode cL_law 1480 = .ok (.iconst 1, 1) := gdL_law_1471.2.2.2.2.2
theorem gdL_law_1481 : (decode cL_law 1481 = .ok (.iadd, 1)) ∧ (decode cL_law 1482 = .ok (.iaload, 1)) ∧ (decode cL_law 1483 = .ok (.aload_n 0, 1)) ∧ (decode cL_law 1484 = .ok (.iload 4, 2)) ∧ (decode cL_law 1486 = .ok (.iconst 2, 1)) ∧ (decode cL_law 1487 = .ok (.iadd, 1)) := by decide +kernel
theorem dL_law_1481 : decode cL_law 1481 = .ok (.iadd, 1) := gdL_law_1481.1
theorem dL_law_1482 : decode cL_law 1482 = .ok (.iaload, 1) := gdL_law_1481.2.1
theorem dL_law_1483 : decode cL_law 1483 = .ok (.aload_n 0, 1) := gdL_law_1481.2.2.1
theorem dL_law_1484 : decode cL_law 1484 = .ok (.iload 4, 2) := gdL_law_1481.2.2.2.1
theorem dL_law_1486 : decode cL_law 1486 = .ok (.iconst 2, 1) := gdL_law_1481.2.2.2.2.1
theorem dL_law_1487 : decode cL_law 1487 = .ok (.iadd, 1) := gdL_law_1481.2.2.2.2.2
theorem gdL_law_1488 : (decode cL_law 1488 = .ok (.iaload, 1)) ∧ (decode cL_law 1489 = .ok (.aload_n 0, 1)) ∧ (decode cL_law 1490 = .ok (.iload 4, 2)) ∧ (decode cL_law 1492 = .ok (.iconst 3, 1)) ∧ (decode cL_law 1493 = .ok (.iadd, 1)) ∧ (decode cL_law 1494 = .ok (.iaload, 1)) := by decide +kernel
theorem dL_law_1488 : decode cL_law 1488 = .ok (.iaload, 1) := gdL_law_1488.1
theorem dL_law_1489 : decode cL_law 1489 = .ok (.aload_n 0, 1) := gdL_law_1488.2.1
theorem dL_law_1490 : decode cL_law 1490 = .ok (.iload 4, 2) := gdL_law_1488.2.2.1
theorem dL_law_1492 : decode cL_law 1492 = .ok (.iconst 3, 1) := gdL_law_1488.2.2.2.1
theorem dL_law_1493 : decode cL_law 1493 = .ok (.iadd, 1) := gdL_law_1488.2.2.2.2.1
theorem dL_law_1494 : decode cL_law 1494 = .ok (.iaload, 1) := gdL_law_1488.2.2.2.2.2
theorem gdL_law_1495 : (decode cL_law 1495 = .ok (.aload_n 3, 1)) ∧ (decode cL_law 1496 = .ok (.invokestatic 234, 3)) ∧ (decode cL_law 1499 = .ok (.istore 5, 2)) ∧ (decode cL_law 1501 = .ok (.aload_n 2, 1)) ∧ (decode cL_law 1502 = .ok (.aload_n 0, 1)) ∧ (decode cL_law 1503 = .ok (.iload 4, 2)) := by decide +kernel
theorem dL_law_1495 : decode cL_law 1495 = .ok (.aload_n 3, 1) := gdL_law_1495.1
theorem dL_law_1496 : decode cL_law 1496 = .ok (.invokestatic 234, 3) := gdL_law_1495.2.1
theorem dL_law_1499 : decode cL_law 1499 = .ok (.istore 5, 2) := gdL_law_1495.2.2.1
theorem dL_law_1501 : decode cL_law 1501 = .ok (.aload_n 2, 1) := gdL_law_1495.2.2.2.1
theorem dL_law_1502 : decode cL_law 1502 = .ok (.aload_n 0, 1) := gdL_law_1495.2.2.2.2.1
theorem dL_law_1503 : decode cL_law 1503 = .ok (.iload 4, 2) := gdL_law_1495.2.2.2.2.2
theorem gdL_law_1505 : (decode cL_law 1505 = .ok (.iconst 1, 1)) ∧ (decode cL_law 1506 = .ok (.iadd, 1)) ∧ (decode cL_law 1507 = .ok (.iaload, 1)) ∧ (decode cL_law 1508 = .ok (.aload_n 0, 1)) ∧ (decode cL_law 1509 = .ok (.iload 4, 2)) ∧ (decode cL_law 1511 = .ok (.iconst 2, 1)) := by decide +kernel
theorem dL_law_1505 : decode cL_law 1505 = .ok (.iconst 1, 1) := gdL_law_1505.1
theorem dL_law_1506 : decode cL_law 1506 = .ok (.iadd, 1) := gdL_law_1505.2.1
theorem dL_law_1507 : decode cL_law 1507 = .ok (.iaload, 1) := gdL_law_1505.2.2.1
theorem dL_law_1508 : decode cL_law 1508 = .ok (.aload_n 0, 1) := gdL_law_1505.2.2.2.1
theorem dL_law_1509 : decode cL_law 1509 = .ok (.iload 4, 2) := gdL_law_1505.2.2.2.2.1
theorem dL_law_1511 : decode cL_law 1511 = .ok (.iconst 2, 1) := gdL_law_1505.2.2.2.2.2
theorem gdL_law_1512 : (decode cL_law 1512 = .ok (.iadd, 1)) ∧ (decode cL_law 1513 = .ok (.iaload, 1)) ∧ (decode cL_law 1514 = .ok (.aload_n 0, 1)) ∧ (decode cL_law 1515 = .ok (.iload 4, 2)) ∧ (decode cL_law 1517 = .ok (.iconst 3, 1)) ∧ (decode cL_law 1518 = .ok (.iadd, 1)) := by decide +kernel
theorem dL_law_1512 : decode cL_law 1512 = .ok (.iadd, 1) := gdL_law_1512.1
theorem dL_law_1513 : decode cL_law 1513 = .ok (.iaload, 1) := gdL_law_1512.2.1
theorem dL_law_1514 : decode cL_law 1514 = .ok (.aload_n 0, 1) := gdL_law_1512.2.2.1
theorem dL_law_1515 : decode cL_law 1515 = .ok (.iload 4, 2) := gdL_law_1512.2.2.2.1
theorem dL_law_1517 : decode cL_law 1517 = .ok (.iconst 3, 1) := gdL_law_1512.2.2.2.2.1
theorem dL_law_1518 : decode cL_law 1518 = .ok (.iadd, 1) := gdL_law_1512.2.2.2.2.2
theorem gdL_law_1519 : (decode cL_law 1519 = .ok (.iaload, 1)) ∧ (decode cL_law 1520 = .ok (.invokevirtual 236, 3)) ∧ (decode cL_law 1523 = .ok (.istore 6, 2)) ∧ (decode cL_law 1525 = .ok (.goto 559, 3)) ∧ (decode cL_law 1528 = .ok (.aload_n 1, 1)) ∧ (decode cL_law 1529 = .ok (.aload_n 0, 1)) := by decide +kernel
theorem dL_law_1519 : decode cL_law 1519 = .ok (.iaload, 1) := gdL_law_1519.1
theorem dL_law_1520 : decode cL_law 1520 = .ok (.invokevirtual 236, 3) := gdL_law_1519.2.1
theorem dL_law_1523 : decode cL_law 1523 = .ok (.istore 6, 2) := gdL_law_1519.2.2.1
theorem dL_law_1525 : decode cL_law 1525 = .ok (.goto 559, 3) := gdL_law_1519.2.2.2.1
theorem dL_law_1528 : decode cL_law 1528 = .ok (.aload_n 1, 1) := gdL_law_1519.2.2.2.2.1
theorem dL_law_1529 : decode cL_law 1529 = .ok (.aload_n 0, 1) := gdL_law_1519.2.2.2.2.2
theorem gdL_law_1530 : (decode cL_law 1530 = .ok (.iload 4, 2)) ∧ (decode cL_law 1532 = .ok (.iconst 1, 1)) ∧ (decode cL_law 1533 = .ok (.iadd, 1)) ∧ (decode cL_law 1534 = .ok (.iaload, 1)) ∧ (decode cL_law 1535 = .ok (.aload_n 0, 1)) ∧ (decode cL_law 1536 = .ok (.iload 4, 2)) := by decide +kernel
theorem dL_law_1530 : decode cL_law 1530 = .ok (.iload 4, 2) := gdL_law_1530.1
theorem dL_law_1532 : decode cL_law 1532 = .ok (.iconst 1, 1) := gdL_law_1530.2.1
theorem dL_law_1533 : decode cL_law 1533 = .ok (.iadd, 1) := gdL_law_1530.2.2.1
theorem dL_law_1534 : decode cL_law 1534 = .ok (.iaload, 1) := gdL_law_1530.2.2.2.1
theorem dL_law_1535 : decode cL_law 1535 = .ok (.aload_n 0, 1) := gdL_law_1530.2.2.2.2.1
theorem dL_law_1536 : decode cL_law 1536 = .ok (.iload 4, 2) := gdL_law_1530.2.2.2.2.2
theorem gdL_law_1538 : (decode cL_law 1538 = .ok (.iconst 2, 1)) ∧ (decode cL_law 1539 = .ok (.iadd, 1)) ∧ (decode cL_law 1540 = .ok (.iaload, 1)) ∧ (decode cL_law 1541 = .ok (.aload_n 0, 1)) ∧ (decode cL_law 1542 = .ok (.iload 4, 2)) ∧ (decode cL_law 1544 = .ok (.iconst 3, 1)) := by decide +kernel
theorem dL_law_1538 : decode cL_law 1538 = .ok (.iconst 2, 1) := gdL_law_1538.1
theorem dL_law_1539 : decode cL_law 1539 = .ok (.iadd, 1) := gdL_law_1538.2.1
theorem dL_law_1540 : decode cL_law 1540 = .ok (.iaload, 1) := gdL_law_1538.2.2.1
theorem dL_law_1541 : decode cL_law 1541 = .ok (.aload_n 0, 1) := gdL_law_1538.2.2.2.1
theorem dL_law_1542 : decode cL_law 1542 = .ok (.iload 4, 2) := gdL_law_1538.2.2.2.2.1
theorem dL_law_1544 : decode cL_law 1544 = .ok (.iconst 3, 1) := gdL_law_1538.2.2.2.2.2
theorem gdL_law_1545 : (decode cL_law 1545 = .ok (.iadd, 1)) ∧ (decode cL_law 1546 = .ok (.iaload, 1)) ∧ (decode cL_law 1547 = .ok (.aload_n 3, 1)) ∧ (decode cL_law 1548 = .ok (.invokestatic 237, 3)) ∧ (decode cL_law 1551 = .ok (.istore 5, 2)) ∧ (decode cL_law 1553 = .ok (.aload_n 2, 1)) := by decide +kernel
theorem dL_law_1545 : decode cL_law 1545 = .ok (.iadd, 1) := gdL_law_1545.1
theorem dL_law_1546 : decode cL_law 1546 = .ok (.iaload, 1) := gdL_law_1545.2.1
theorem dL_law_1547 : decode cL_law 1547 = .ok (.aload_n 3, 1) := gdL_law_1545.2.2.1
theorem dL_law_1548 : decode cL_law 1548 = .ok (.invokestatic 237, 3) := gdL_law_1545.2.2.2.1
theorem dL_law_1551 : decode cL_law 1551 = .ok (.istore 5, 2) := gdL_law_1545.2.2.2.2.1
theorem dL_law_1553 : decode cL_law 1553 = .ok (.aload_n 2, 1) := gdL_law_1545.2.2.2.2.2
theorem gdL_law_1554 : (decode cL_law 1554 = .ok (.aload_n 0, 1)) ∧ (decode cL_law 1555 = .ok (.iload 4, 2)) ∧ (decode cL_law 1557 = .ok (.iconst 1, 1)) ∧ (decode cL_law 1558 = .ok (.iadd, 1)) ∧ (decode cL_law 1559 = .ok (.iaload, 1)) ∧ (decode cL_law 1560 = .ok (.aload_n 0, 1)) := by decide +kernel
theorem dL_law_1554 : decode cL_law 1554 = .ok (.aload_n 0, 1) := gdL_law_1554.1
theorem dL_law_1555 : decode cL_law 1555 = .ok (.iload 4, 2) := gdL_law_1554.2.1
theorem dL_law_1557 : decode cL_law 1557 = .ok (.iconst 1, 1) := gdL_law_1554.2.2.1
theorem dL_law_1558 : decode cL_law 1558 = .ok (.iadd, 1) := gdL_law_1554.2.2.2.1
theorem dL_law_1559 : decode cL_law 1559 = .ok (.iaload, 1) := gdL_law_1554.2.2.2.2.1
theorem dL_law_1560 : decode cL_law 1560 = .ok (.aload_n 0, 1) := gdL_law_1554.2.2.2.2.2
theorem gdL_law_1561 : (decode cL_law 1561 = .ok (.iload 4, 2)) ∧ (decode cL_law 1563 = .ok (.iconst 2, 1)) ∧ (decode cL_law 1564 = .ok (.iadd, 1)) ∧ (decode cL_law 1565 = .ok (.iaload, 1)) ∧ (decode cL_law 1566 = .ok (.aload_n 0, 1)) ∧ (decode cL_law 1567 = .ok (.iload 4, 2)) := by decide +kernel
theorem dL_law_1561 : decode cL_law 1561 = .ok (.iload 4, 2) := gdL_law_1561.1
theorem dL_law_1563 : decode cL_law 1563 = .ok (.iconst 2, 1) := gdL_law_1561.2.1
theorem dL_law_1564 : decode cL_law 1564 = .ok (.iadd, 1) := gdL_law_1561.2.2.1
theorem dL_law_1565 : decode cL_law 1565 = .ok (.iaload, 1) := gdL_law_1561.2.2.2.1
theorem dL_law_1566 : decode cL_law 1566 = .ok (.aload_n 0, 1) := gdL_law_1561.2.2.2.2.1
theorem dL_law_1567 : decode cL_law 1567 = .ok (.iload 4, 2) := gdL_law_1561.2.2.2.2.2
theorem gdL_law_1569 : (decode cL_law 1569 = .ok (.iconst 3, 1)) ∧ (decode cL_law 1570 = .ok (.iadd, 1)) ∧ (decode cL_law 1571 = .ok (.iaload, 1)) ∧ (decode cL_law 1572 = .ok (.invokevirtual 239, 3)) ∧ (decode cL_law 1575 = .ok (.istore 6, 2)) ∧ (decode cL_law 1577 = .ok (.goto 507, 3)) := by decide +kernel
theorem dL_law_1569 : decode cL_law 1569 = .ok (.iconst 3, 1) := gdL_law_1569.1
theorem dL_law_1570 : decode cL_law 1570 = .ok (.iadd, 1) := gdL_law_1569.2.1
theorem dL_law_1571 : decode cL_law 1571 = .ok (.iaload, 1) := gdL_law_1569.2.2.1
theorem dL_law_1572 : decode cL_law 1572 = .ok (.invokevirtual 239, 3) := gdL_law_1569.2.2.2.1
theorem dL_law_1575 : decode cL_law 1575 = .ok (.istore 6, 2) := gdL_law_1569.2.2.2.2.1
theorem dL_law_1577 : decode cL_law 1577 = .ok (.goto 507, 3) := gdL_law_1569.2.2.2.2.2
theorem gdL_law_1580 : (decode cL_law 1580 = .ok (.aload_n 1, 1)) ∧ (decode cL_law 1581 = .ok (.aload_n 0, 1)) ∧ (decode cL_law 1582 = .ok (.iload 4, 2)) ∧ (decode cL_law 1584 = .ok (.iconst 1, 1)) ∧ (decode cL_law 1585 = .ok (.iadd, 1)) ∧ (decode cL_law 1586 = .ok (.iaload, 1)) := by decide +kernel
theorem dL_law_1580 : decode cL_law 1580 = .ok (.aload_n 1, 1) := gdL_law_1580.1
theorem dL_law_1581 : decode cL_law 1581 = .ok (.aload_n 0, 1) := gdL_law_1580.2.1
theorem dL_law_1582 : decode cL_law 1582 = .ok (.iload 4, 2) := gdL_law_1580.2.2.1
theorem dL_law_1584 : decode cL_law 1584 = .ok (.iconst 1, 1) := gdL_law_1580.2.2.2.1
theorem dL_law_1585 : decode cL_law 1585 = .ok (.iadd, 1) := gdL_law_1580.2.2.2.2.1
theorem dL_law_1586 : decode cL_law 1586 = .ok (.iaload, 1) := gdL_law_1580.2.2.2.2.2
theorem gdL_law_1587 : (decode cL_law 1587 = .ok (.aload_n 0, 1)) ∧ (decode cL_law 1588 = .ok (.iload 4, 2)) ∧ (decode cL_law 1590 = .ok (.iconst 2, 1)) ∧ (decode cL_law 1591 = .ok (.iadd, 1)) ∧ (decode cL_law 1592 = .ok (.iaload, 1)) ∧ (decode cL_law 1593 = .ok (.aload_n 3, 1)) := by decide +kernel
theorem dL_law_1587 : decode cL_law 1587 = .ok (.aload_n 0, 1) := gdL_law_1587.1
theorem dL_law_1588 : decode cL_law 1588 = .ok (.iload 4, 2) := gdL_law_1587.2.1
theorem dL_law_1590 : decode cL_law 1590 = .ok (.iconst 2, 1) := gdL_law_1587.2.2.1
theorem dL_law_1591 : decode cL_law 1591 = .ok (.iadd, 1) := gdL_law_1587.2.2.2.1
theorem dL_law_1592 : decode cL_law 1592 = .ok (.iaload, 1) := gdL_law_1587.2.2.2.2.1
theorem dL_law_1593 : decode cL_law 1593 = .ok (.aload_n 3, 1) := gdL_law_1587.2.2.2.2.2
theorem gdL_law_1594 : (decode cL_law 1594 = .ok (.invokestatic 240, 3)) ∧ (decode cL_law 1597 = .ok (.istore 5, 2)) ∧ (decode cL_law 1599 = .ok (.aload_n 2, 1)) ∧ (decode cL_law 1600 = .ok (.aload_n 0, 1)) ∧ (decode cL_law 1601 = .ok (.iload 4, 2)) ∧ (decode cL_law 1603 = .ok (.iconst 1, 1)) := by decide +kernel
theorem dL_law_1594 : decode cL_law 1594 = .ok (.invokestatic 240, 3) := gdL_law_1594.1
theorem dL_law_1597 : decode cL_law 1597 = .ok (.istore 5, 2) := gdL_law_1594.2.1
theorem dL_law_1599 : decode cL_law 1599 = .ok (.aload_n 2, 1) := gdL_law_1594.2.2.1
theorem dL_law_1600 : decode cL_law 1600 = .ok (.aload_n 0, 1) := gdL_law_1594.2.2.2.1
theorem dL_law_1601 : decode cL_law 1601 = .ok (.iload 4, 2) := gdL_law_1594.2.2.2.2.1
theorem dL_law_1603 : decode cL_law 1603 = .ok (.iconst 1, 1) := gdL_law_1594.2.2.2.2.2
theorem gdL_law_1604 : (decode cL_law 1604 = .ok (.iadd, 1)) ∧ (decode cL_law 1605 = .ok (.iaload, 1)) ∧ (decode cL_law 1606 = .ok (.aload_n 0, 1)) ∧ (decode cL_law 1607 = .ok (.iload 4, 2)) ∧ (decode cL_law 1609 = .ok (.iconst 2, 1)) ∧ (decode cL_law 1610 = .ok (.iadd, 1)) := by decide +kernel
theorem dL_law_1604 : decode cL_law 1604 = .ok (.iadd, 1) := gdL_law_1604.1
theorem dL_law_1605 : decode cL_law 1605 = .ok (.iaload, 1) := gdL_law_1604.2.1
theorem dL_law_1606 : decode cL_law 1606 = .ok (.aload_n 0, 1) := gdL_law_1604.2.2.1
theorem dL_law_1607 : decode cL_law 1607 = .ok (.iload 4, 2) := gdL_law_1604.2.2.2.1
theorem dL_law_1609 : decode cL_law 1609 = .ok (.iconst 2, 1) := gdL_law_1604.2.2.2.2.1
theorem dL_law_1610 : decode cL_law 1610 = .ok (.iadd, 1) := gdL_law_1604.2.2.2.2.2
theorem gdL_law_1611 : (decode cL_law 1611 = .ok (.iaload, 1)) ∧ (decode cL_law 1612 = .ok (.invokevirtual 242, 3)) ∧ (decode cL_law 1615 = .ok (.istore 6, 2)) ∧ (decode cL_law 1617 = .ok (.goto 467, 3)) ∧ (decode cL_law 1620 = .ok (.aload_n 1, 1)) ∧ (decode cL_law 1621 = .ok (.aload_n 0, 1)) := by decide +kernel
theorem dL_law_1611 : decode cL_law 1611 = .ok (.iaload, 1) := gdL_law_1611.1
theorem dL_law_1612 : decode cL_law 1612 = .ok (.invokevirtual 242, 3) := gdL_law_1611.2.1
theorem dL_law_1615 : decode cL_law 1615 = .ok (.istore 6, 2) := gdL_law_1611.2.2.1
theorem dL_law_1617 : decode cL_law 1617 = .ok (.goto 467, 3) := gdL_law_1611.2.2.2.1
theorem dL_law_1620 : decode cL_law 1620 = .ok (.aload_n 1, 1) := gdL_law_1611.2.2.2.2.1
theorem dL_law_1621 : decode cL_law 1621 = .ok (.aload_n 0, 1) := gdL_law_1611.2.2.2.2.2
theorem gdL_law_1622 : (decode cL_law 1622 = .ok (.iload 4, 2)) ∧ (decode cL_law 1624 = .ok (.iconst 1, 1)) ∧ (decode cL_law 1625 = .ok (.iadd, 1)) ∧ (decode cL_law 1626 = .ok (.iaload, 1)) ∧ (decode cL_law 1627 = .ok (.aload_n 0, 1)) ∧ (decode cL_law 1628 = .ok (.iload 4, 2)) := by decide +kernel
theorem dL_law_1622 : decode cL_law 1622 = .ok (.iload 4, 2) := gdL_law_1622.1
theorem dL_law_1624 : decode cL_law 1624 = .ok (.iconst 1, 1) := gdL_law_1622.2.1
theorem dL_law_1625 : decode cL_law 1625 = .ok (.iadd, 1) := gdL_law_1622.2.2.1
theorem dL_law_1626 : decode cL_law 1626 = .ok (.iaload, 1) := gdL_law_1622.2.2.2.1
theorem dL_law_1627 : decode cL_law 1627 = .ok (.aload_n 0, 1) := gdL_law_1622.2.2.2.2.1
theorem dL_law_1628 : decode cL_law 1628 = .ok (.iload 4, 2) := gdL_law_1622.2.2.2.2.2
theorem gdL_law_1630 : (decode cL_law 1630 = .ok (.iconst 2, 1)) ∧ (decode cL_law 1631 = .ok (.iadd, 1)) ∧ (decode cL_law 1632 = .ok (.iaload, 1)) ∧ (decode cL_law 1633 = .ok (.aload_n 3, 1)) ∧ (decode cL_law 1634 = .ok (.invokestatic 243, 3)) ∧ (decode cL_law 1637 = .ok (.istore 5, 2)) := by decide +kernel
theorem dL_law_1630 : decode cL_law 1630 = .ok (.iconst 2, 1) := gdL_law_1630.1
theorem dL_law_1631 : decode cL_law 1631 = .ok (.iadd, 1) := gdL_law_1630.2.1
theorem dL_law_1632 : decode cL_law 1632 = .ok (.iaload, 1) := gdL_law_1630.2.2.1
theorem dL_law_1633 : decode cL_law 1633 = .ok (.aload_n 3, 1) := gdL_law_1630.2.2.2.1
theorem dL_law_1634 : decode cL_law 1634 = .ok (.invokestatic 243, 3) := gdL_law_1630.2.2.2.2.1
theorem dL_law_1637 : decode cL_law 1637 = .ok (.istore 5, 2) := gdL_law_1630.2.2.2.2.2
theorem gdL_law_1639 : (decode cL_law 1639 = .ok (.aload_n 2, 1)) ∧ (decode cL_law 1640 = .ok (.aload_n 0, 1)) ∧ (decode cL_law 1641 = .ok (.iload 4, 2)) ∧ (decode cL_law 1643 = .ok (.iconst 1, 1)) ∧ (decode cL_law 1644 = .ok (.iadd, 1)) ∧ (decode cL_law 1645 = .ok (.iaload, 1)) := by decide +kernel
theorem dL_law_1639 : decode cL_law 1639 = .ok (.aload_n 2, 1) := gdL_law_1639.1
theorem dL_law_1640 : decode cL_law 1640 = .ok (.aload_n 0, 1) := gdL_law_1639.2.1
theorem dL_law_1641 : decode cL_law 1641 = .ok (.iload 4, 2) := gdL_law_1639.2.2.1
theorem dL_law_1643 : decode cL_law 1643 = .ok (.iconst 1, 1) := gdL_law_1639.2.2.2.1
theorem dL_law_1644 : decode cL_law 1644 = .ok (.iadd, 1) := gdL_law_1639.2.2.2.2.1
theorem dL_law_1645 : decode cL_law 1645 = .ok (.iaload, 1) := gdL_law_1639.2.2.2.2.2
theorem gdL_law_1646 : (decode cL_law 1646 = .ok (.aload_n 0, 1)) ∧ (decode cL_law 1647 = .ok (.iload 4, 2)) ∧ (decode cL_law 1649 = .ok (.iconst 2, 1)) ∧ (decode cL_law 1650 = .ok (.iadd, 1)) ∧ (decode cL_law 1651 = .ok (.iaload, 1)) ∧ (decode cL_law 1652 = .ok (.invokevirtual 245, 3)) := by decide +kernel
theorem dL_law_1646 : decode cL_law 1646 = .ok (.aload_n 0, 1) := gdL_law_1646.1
theorem dL_law_1647 : decode cL_law 1647 = .ok (.iload 4, 2) := gdL_law_1646.2.1
theorem dL_law_1649 : decode cL_law 1649 = .ok (.iconst 2, 1) := gdL_law_1646.2.2.1
theorem dL_law_1650 : decode cL_law 1650 = .ok (.iadd, 1) := gdL_law_1646.2.2.2.1
theorem dL_law_1651 : decode cL_law 1651 = .ok (.iaload, 1) := gdL_law_1646.2.2.2.2.1
theorem dL_law_1652 : decode cL_law 1652 = .ok (.invokevirtual 245, 3) := gdL_law_1646.2.2.2.2.2
theorem gdL_law_1655 : (decode cL_law 1655 = .ok (.istore 6, 2)) ∧ (decode cL_law 1657 = .ok (.goto 427, 3)) ∧ (decode cL_law 1660 = .ok (.aload_n 1, 1)) ∧ (decode cL_law 1661 = .ok (.aload_n 0, 1)) ∧ (decode cL_law 1662 = .ok (.iload 4, 2)) ∧ (decode cL_law 1664 = .ok (.iconst 1, 1)) := by decide +kernel
theorem dL_law_1655 : decode cL_law 1655 = .ok (.istore 6, 2) := gdL_law_1655.1
theorem dL_law_1657 : decode cL_law 1657 = .ok (.goto 427, 3) := gdL_law_1655.2.1
theorem dL_law_1660 : decode cL_law 1660 = .ok (.aload_n 1, 1) := gdL_law_1655.2.2.1
theorem dL_law_1661 : decode cL_law 1661 = .ok (.aload_n 0, 1) := gdL_law_1655.2.2.2.1
theorem dL_law_1662 : decode cL_law 1662 = .ok (.iload 4, 2) := gdL_law_1655.2.2.2.2.1
theorem dL_law_1664 : decode cL_law 1664 = .ok (.iconst 1, 1) := gdL_law_1655.2.2.2.2.2
theorem gdL_law_1665 : (decode cL_law 1665 = .ok (.iadd, 1)) ∧ (decode cL_law 1666 = .ok (.iaload, 1)) ∧ (decode cL_law 1667 = .ok (.aload_n 3, 1)) ∧ (decode cL_law 1668 = .ok (.invokestatic 246, 3)) ∧ (decode cL_law 1671 = .ok (.istore 5, 2)) ∧ (decode cL_law 1673 = .ok (.aload_n 2, 1)) := by decide +kernel
theorem dL_law_1665 : decode cL_law 1665 = .ok (.iadd, 1) := gdL_law_1665.1
theorem dL_law_1666 : decode cL_law 1666 = .ok (.iaload, 1) := gdL_law_1665.2.1
theorem dL_law_1667 : decode cL_law 1667 = .ok (.aload_n 3, 1) := gdL_law_1665.2.2.1
theorem dL_law_1668 : decode cL_law 1668 = .ok (.invokestatic 246, 3) := gdL_law_1665.2.2.2.1
theorem dL_law_1671 : decode cL_law 1671 = .ok (.istore 5, 2) := gdL_law_1665.2.2.2.2.1
theorem dL_law_1673 : decode cL_law 1673 = .ok (.aload_n 2, 1) := gdL_law_1665.2.2.2.2.2
theorem gdL_law_1674 : (decode cL_law 1674 = .ok (.aload_n 0, 1)) ∧ (decode cL_law 1675 = .ok (.iload 4, 2)) ∧ (decode cL_law 1677 = .ok (.iconst 1, 1)) ∧ (decode cL_law 1678 = .ok (.iadd, 1)) ∧ (decode cL_law 1679 = .ok (.iaload, 1)) ∧ (decode cL_law 1680 = .ok (.invokevirtual 248, 3)) := by decide +kernel
theorem dL_law_1674 : decode cL_law 1674 = .ok (.aload_n 0, 1) := gdL_law_1674.1
theorem dL_law_1675 : decode cL_law 1675 = .ok (.iload 4, 2) := gdL_law_1674.2.1
theorem dL_law_1677 : decode cL_law 1677 = .ok (.iconst 1, 1) := gdL_law_1674.2.2.1
theorem dL_law_1678 : decode cL_law 1678 = .ok (.iadd, 1) := gdL_law_1674.2.2.2.1
theorem dL_law_1679 : decode cL_law 1679 = .ok (.iaload, 1) := gdL_law_1674.2.2.2.2.1
theorem dL_law_1680 : decode cL_law 1680 = .ok (.invokevirtual 248, 3) := gdL_law_1674.2.2.2.2.2
theorem gdL_law_1683 : (decode cL_law 1683 = .ok (.istore 6, 2)) ∧ (decode cL_law 1685 = .ok (.goto 399, 3)) ∧ (decode cL_law 1688 = .ok (.aload_n 1, 1)) ∧ (decode cL_law 1689 = .ok (.aload_n 0, 1)) ∧ (decode cL_law 1690 = .ok (.iload 4, 2)) ∧ (decode cL_law 1692 = .ok (.iconst 1, 1)) := by decide +kernel
theorem dL_law_1683 : decode cL_law 1683 = .ok (.istore 6, 2) := gdL_law_1683.1
theorem dL_law_1685 : decode cL_law 1685 = .ok (.goto 399, 3) := gdL_law_1683.2.1
theorem dL_law_1688 : decode cL_law 1688 = .ok (.aload_n 1, 1) := gdL_law_1683.2.2.1
theorem dL_law_1689 : decode cL_law 1689 = .ok (.aload_n 0, 1) := gdL_law_1683.2.2.2.1
theorem dL_law_1690 : decode cL_law 1690 = .ok (.iload 4, 2) := gdL_law_1683.2.2.2.2.1
theorem dL_law_1692 : decode cL_law 1692 = .ok (.iconst 1, 1) := gdL_law_1683.2.2.2.2.2
theorem gdL_law_1693 : (decode cL_law 1693 = .ok (.iadd, 1)) ∧ (decode cL_law 1694 = .ok (.iaload, 1)) ∧ (decode cL_law 1695 = .ok (.aload_n 3, 1)) ∧ (decode cL_law 1696 = .ok (.invokestatic 249, 3)) ∧ (decode cL_law 1699 = .ok (.istore 5, 2)) ∧ (decode cL_law 1701 = .ok (.aload_n 2, 1)) := by decide +kernel
theorem dL_law_1693 : decode cL_law 1693 = .ok (.iadd, 1) := gdL_law_1693.1
theorem dL_law_1694 : decode cL_law 1694 = .ok (.iaload, 1) := gdL_law_1693.2.1
theorem dL_law_1695 : decode cL_law 1695 = .ok (.aload_n 3, 1) := gdL_law_1693.2.2.1
theorem dL_law_1696 : decode cL_law 1696 = .ok (.invokestatic 249, 3) := gdL_law_1693.2.2.2.1
theorem dL_law_1699 : decode cL_law 1699 = .ok (.istore 5, 2) := gdL_law_1693.2.2.2.2.1
theorem dL_law_1701 : decode cL_law 1701 = .ok (.aload_n 2, 1) := gdL_law_1693.2.2.2.2.2
theorem gdL_law_1702 : (decode cL_law 1702 = .ok (.aload_n 0, 1)) ∧ (decode cL_law 1703 = .ok (.iload 4, 2)) ∧ (decode cL_law 1705 = .ok (.iconst 1, 1)) ∧ (decode cL_law 1706 = .ok (.iadd, 1)) ∧ (decode cL_law 1707 = .ok (.iaload, 1)) ∧ (decode cL_law 1708 = .ok (.invokevirtual 251, 3)) := by decide +kernel
theorem dL_law_1702 : decode cL_law 1702 = .ok (.aload_n 0, 1) := gdL_law_1702.1
theorem dL_law_1703 : decode cL_law 1703 = .ok (.iload 4, 2) := gdL_law_1702.2.1
theorem dL_law_1705 : decode cL_law 1705 = .ok (.iconst 1, 1) := gdL_law_1702.2.2.1
theorem dL_law_1706 : decode cL_law 1706 = .ok (.iadd, 1) := gdL_law_1702.2.2.2.1
theorem dL_law_1707 : decode cL_law 1707 = .ok (.iaload, 1) := gdL_law_1702.2.2.2.2.1
theorem dL_law_1708 : decode cL_law 1708 = .ok (.invokevirtual 251, 3) := gdL_law_1702.2.2.2.2.2
theorem gdL_law_1711 : (decode cL_law 1711 = .ok (.istore 6, 2)) ∧ (decode cL_law 1713 = .ok (.goto 371, 3)) ∧ (decode cL_law 1716 = .ok (.aload_n 1, 1)) ∧ (decode cL_law 1717 = .ok (.aload_n 0, 1)) ∧ (decode cL_law 1718 = .ok (.iload 4, 2)) ∧ (decode cL_law 1720 = .ok (.iconst 1, 1)) := by decide +kernel
theorem dL_law_1711 : decode cL_law 1711 = .ok (.istore 6, 2) := gdL_law_1711.1
theorem dL_law_1713 : decode cL_law 1713 = .ok (.goto 371, 3) := gdL_law_1711.2.1
theorem dL_law_1716 : decode cL_law 1716 = .ok (.aload_n 1, 1) := gdL_law_1711.2.2.1
theorem dL_law_1717 : decode cL_law 1717 = .ok (.aload_n 0, 1) := gdL_law_1711.2.2.2.1
theorem dL_law_1718 : decode cL_law 1718 = .ok (.iload 4, 2) := gdL_law_1711.2.2.2.2.1
theorem dL_law_1720 : decode cL_law 1720 = .ok (.iconst 1, 1) := gdL_law_1711.2.2.2.2.2
theorem gdL_law_1721 : (decode cL_law 1721 = .ok (.iadd, 1)) ∧ (decode cL_law 1722 = .ok (.iaload, 1)) ∧ (decode cL_law 1723 = .ok (.aload_n 3, 1)) ∧ (decode cL_law 1724 = .ok (.invokestatic 252, 3)) ∧ (decode cL_law 1727 = .ok (.istore 5, 2)) ∧ (decode cL_law 1729 = .ok (.aload_n 2, 1)) := by decide +kernel
theorem dL_law_1721 : decode cL_law 1721 = .ok (.iadd, 1) := gdL_law_1721.1
theorem dL_law_1722 : decode cL_law 1722 = .ok (.iaload, 1) := gdL_law_1721.2.1
theorem dL_law_1723 : decode cL_law 1723 = .ok (.aload_n 3, 1) := gdL_law_1721.2.2.1
theorem dL_law_1724 : decode cL_law 1724 = .ok (.invokestatic 252, 3) := gdL_law_1721.2.2.2.1
theorem dL_law_1727 : decode cL_law 1727 = .ok (.istore 5, 2) := gdL_law_1721.2.2.2.2.1
theorem dL_law_1729 : decode cL_law 1729 = .ok (.aload_n 2, 1) := gdL_law_1721.2.2.2.2.2
theorem gdL_law_1730 : (decode cL_law 1730 = .ok (.aload_n 0, 1)) ∧ (decode cL_law 1731 = .ok (.iload 4, 2)) ∧ (decode cL_law 1733 = .ok (.iconst 1, 1)) ∧ (decode cL_law 1734 = .ok (.iadd, 1)) ∧ (decode cL_law 1735 = .ok (.iaload, 1)) ∧ (decode cL_law 1736 = .ok (.invokevirtual 254, 3)) := by decide +kernel
theorem dL_law_1730 : decode cL_law 1730 = .ok (.aload_n 0, 1) := gdL_law_1730.1
theorem dL_law_1731 : decode cL_law 1731 = .ok (.iload 4, 2) := gdL_law_1730.2.1
theorem dL_law_1733 : decode cL_law 1733 = .ok (.iconst 1, 1) := gdL_law_1730.2.2.1
theorem dL_law_1734 : decode cL_law 1734 = .ok (.iadd, 1) := gdL_law_1730.2.2.2.1
theorem dL_law_1735 : decode cL_law 1735 = .ok (.iaload, 1) := gdL_law_1730.2.2.2.2.1
theorem dL_law_1736 : decode cL_law 1736 = .ok (.invokevirtual 254, 3) := gdL_law_1730.2.2.2.2.2
theorem gdL_law_1739 : (decode cL_law 1739 = .ok (.istore 6, 2)) ∧ (decode cL_law 1741 = .ok (.goto 343, 3)) ∧ (decode cL_law 1744 = .ok (.aload_n 1, 1)) ∧ (decode cL_law 1745 = .ok (.aload_n 0, 1)) ∧ (decode cL_law 1746 = .ok (.iload 4, 2)) ∧ (decode cL_law 1748 = .ok (.iconst 1, 1)) := by decide +kernel
theorem dL_law_1739 : decode cL_law 1739 = .ok (.istore 6, 2) := gdL_law_1739.1
theorem dL_law_1741 : decode cL_law 1741 = .ok (.goto 343, 3) := gdL_law_1739.2.1
theorem dL_law_1744 : decode cL_law 1744 = .ok (.aload_n 1, 1) := gdL_law_1739.2.2.1
theorem dL_law_1745 : decode cL_law 1745 = .ok (.aload_n 0, 1) := gdL_law_1739.2.2.2.1
theorem dL_law_1746 : decode cL_law 1746 = .ok (.iload 4, 2) := gdL_law_1739.2.2.2.2.1
theorem dL_law_1748 : decode cL_law 1748 = .ok (.iconst 1, 1) := gdL_law_1739.2.2.2.2.2
theorem gdL_law_1749 : (decode cL_law 1749 = .ok (.iadd, 1)) ∧ (decode cL_law 1750 = .ok (.iaload, 1)) ∧ (decode cL_law 1751 = .ok (.aload_n 3, 1)) ∧ (decode cL_law 1752 = .ok (.invokestatic 255, 3)) ∧ (decode cL_law 1755 = .ok (.istore 5, 2)) ∧ (decode cL_law 1757 = .ok (.aload_n 2, 1)) := by decide +kernel
theorem dL_law_1749 : decode cL_law 1749 = .ok (.iadd, 1) := gdL_law_1749.1
theorem dL_law_1750 : decode cL_law 1750 = .ok (.iaload, 1) := gdL_law_1749.2.1
theorem dL_law_1751 : decode cL_law 1751 = .ok (.aload_n 3, 1) := gdL_law_1749.2.2.1
theorem dL_law_1752 : decode cL_law 1752 = .ok (.invokestatic 255, 3) := gdL_law_1749.2.2.2.1
theorem dL_law_1755 : decode cL_law 1755 = .ok (.istore 5, 2) := gdL_law_1749.2.2.2.2.1
theorem dL_law_1757 : decode cL_law 1757 = .ok (.aload_n 2, 1) := gdL_law_1749.2.2.2.2.2
theorem gdL_law_1758 : (decode cL_law 1758 = .ok (.aload_n 0, 1)) ∧ (decode cL_law 1759 = .ok (.iload 4, 2)) ∧ (decode cL_law 1761 = .ok (.iconst 1, 1)) ∧ (decode cL_law 1762 = .ok (.iadd, 1)) ∧ (decode cL_law 1763 = .ok (.iaload, 1)) ∧ (decode cL_law 1764 = .ok (.invokevirtual 257, 3)) := by decide +kernel
theorem dL_law_1758 : decode cL_law 1758 = .ok (.aload_n 0, 1) := gdL_law_1758.1
theorem dL_law_1759 : decode cL_law 1759 = .ok (.iload 4, 2) := gdL_law_1758.2.1
theorem dL_law_1761 : decode cL_law 1761 = .ok (.iconst 1, 1) := gdL_law_1758.2.2.1
theorem dL_law_1762 : decode cL_law 1762 = .ok (.iadd, 1) := gdL_law_1758.2.2.2.1
theorem dL_law_1763 : decode cL_law 1763 = .ok (.iaload, 1) := gdL_law_1758.2.2.2.2.1
theorem dL_law_1764 : decode cL_law 1764 = .ok (.invokevirtual 257, 3) := gdL_law_1758.2.2.2.2.2
theorem gdL_law_1767 : (decode cL_law 1767 = .ok (.istore 6, 2)) ∧ (decode cL_law 1769 = .ok (.goto 315, 3)) ∧ (decode cL_law 1772 = .ok (.aload_n 1, 1)) ∧ (decode cL_law 1773 = .ok (.aload_n 0, 1)) ∧ (decode cL_law 1774 = .ok (.iload 4, 2)) ∧ (decode cL_law 1776 = .ok (.iconst 1, 1)) := by decide +kernel
theorem dL_law_1767 : decode cL_law 1767 = .ok (.istore 6, 2) := gdL_law_1767.1
theorem dL_law_1769 : decode cL_law 1769 = .ok (.goto 315, 3) := gdL_law_1767.2.1
theorem dL_law_1772 : decode cL_law 1772 = .ok (.aload_n 1, 1) := gdL_law_1767.2.2.1
theorem dL_law_1773 : decode cL_law 1773 = .ok (.aload_n 0, 1) := gdL_law_1767.2.2.2.1
theorem dL_law_1774 : decode cL_law 1774 = .ok (.iload 4, 2) := gdL_law_1767.2.2.2.2.1
theorem dL_law_1776 : decode cL_law 1776 = .ok (.iconst 1, 1) := gdL_law_1767.2.2.2.2.2
theorem gdL_law_1777 : (decode cL_law 1777 = .ok (.iadd, 1)) ∧ (decode cL_law 1778 = .ok (.iaload, 1)) ∧ (decode cL_law 1779 = .ok (.aload_n 3, 1)) ∧ (decode cL_law 1780 = .ok (.invokestatic 258, 3)) ∧ (decode cL_law 1783 = .ok (.istore 5, 2)) ∧ (decode cL_law 1785 = .ok (.aload_n 2, 1)) := by decide +kernel
theorem dL_law_1777 : decode cL_law 1777 = .ok (.iadd, 1) := gdL_law_1777.1
theorem dL_law_1778 : decode cL_law 1778 = .ok (.iaload, 1) := gdL_law_1777.2.1
theorem dL_law_1779 : decode cL_law 1779 = .ok (.aload_n 3, 1) := gdL_law_1777.2.2.1
theorem dL_law_1780 : decode cL_law 1780 = .ok (.invokestatic 258, 3) := gdL_law_1777.2.2.2.1
theorem dL_law_1783 : decode cL_law 1783 = .ok (.istore 5, 2) := gdL_law_1777.2.2.2.2.1
theorem dL_law_1785 : decode cL_law 1785 = .ok (.aload_n 2, 1) := gdL_law_1777.2.2.2.2.2
theorem gdL_law_1786 : (decode cL_law 1786 = .ok (.aload_n 0, 1)) ∧ (decode cL_law 1787 = .ok (.iload 4, 2)) ∧ (decode cL_law 1789 = .ok (.iconst 1, 1)) ∧ (decode cL_law 1790 = .ok (.iadd, 1)) ∧ (decode cL_law 1791 = .ok (.iaload, 1)) ∧ (decode cL_law 1792 = .ok (.invokevirtual 260, 3)) := by decide +kernel
theorem dL_law_1786 : decode cL_law 1786 = .ok (.aload_n 0, 1) := gdL_law_1786.1
theorem dL_law_1787 : decode cL_law 1787 = .ok (.iload 4, 2) := gdL_law_1786.2.1
theorem dL_law_1789 : decode cL_law 1789 = .ok (.iconst 1, 1) := gdL_law_1786.2.2.1
theorem dL_law_1790 : decode cL_law 1790 = .ok (.iadd, 1) := gdL_law_1786.2.2.2.1
theorem dL_law_1791 : decode cL_law 1791 = .ok (.iaload, 1) := gdL_law_1786.2.2.2.2.1
theorem dL_law_1792 : decode cL_law 1792 = .ok (.invokevirtual 260, 3) := gdL_law_1786.2.2.2.2.2
theorem gdL_law_1795 : (decode cL_law 1795 = .ok (.istore 6, 2)) ∧ (decode cL_law 1797 = .ok (.goto 287, 3)) ∧ (decode cL_law 1800 = .ok (.aload_n 1, 1)) ∧ (decode cL_law 1801 = .ok (.aload_n 0, 1)) ∧ (decode cL_law 1802 = .ok (.iload 4, 2)) ∧ (decode cL_law 1804 = .ok (.iconst 1, 1)) := by decide +kernel
theorem dL_law_1795 : decode cL_law 1795 = .ok (.istore 6, 2) := gdL_law_1795.1
theorem dL_law_1797 : decode cL_law 1797 = .ok (.goto 287, 3) := gdL_law_1795.2.1
theorem dL_law_1800 : decode cL_law 1800 = .ok (.aload_n 1, 1) := gdL_law_1795.2.2.1
theorem dL_law_1801 : decode cL_law 1801 = .ok (.aload_n 0, 1) := gdL_law_1795.2.2.2.1
theorem dL_law_1802 : decode cL_law 1802 = .ok (.iload 4, 2) := gdL_law_1795.2.2.2.2.1
theorem dL_law_1804 : decode cL_law 1804 = .ok (.iconst 1, 1) := gdL_law_1795.2.2.2.2.2
theorem gdL_law_1805 : (decode cL_law 1805 = .ok (.iadd, 1)) ∧ (decode cL_law 1806 = .ok (.iaload, 1)) ∧ (decode cL_law 1807 = .ok (.aload_n 0, 1)) ∧ (decode cL_law 1808 = .ok (.iload 4, 2)) ∧ (decode cL_law 1810 = .ok (.iconst 2, 1)) ∧ (decode cL_law 1811 = .ok (.iadd, 1)) := by decide +kernel
theorem dL_law_1805 : decode cL_law 1805 = .ok (.iadd, 1) := gdL_law_1805.1
theorem dL_law_1806 : decode cL_law 1806 = .ok (.iaload, 1) := gdL_law_1805.2.1
theorem dL_law_1807 : decode cL_law 1807 = .ok (.aload_n 0, 1) := gdL_law_1805.2.2.1
theorem dL_law_1808 : decode cL_law 1808 = .ok (.iload 4, 2) := gdL_law_1805.2.2.2.1
theorem dL_law_1810 : decode cL_law 1810 = .ok (.iconst 2, 1) := gdL_law_1805.2.2.2.2.1
theorem dL_law_1811 : decode cL_law 1811 = .ok (.iadd, 1) := gdL_law_1805.2.2.2.2.2
theorem gdL_law_1812 : (decode cL_law 1812 = .ok (.iaload, 1)) ∧ (decode cL_law 1813 = .ok (.aload_n 3, 1)) ∧ (decode cL_law 1814 = .ok (.invokestatic 261, 3)) ∧ (decode cL_law 1817 = .ok (.istore 5, 2)) ∧ (decode cL_law 1819 = .ok (.aload_n 2, 1)) ∧ (decode cL_law 1820 = .ok (.aload_n 0, 1)) := by decide +kernel
theorem dL_law_1812 : decode cL_law 1812 = .ok (.iaload, 1) := gdL_law_1812.1
theorem dL_law_1813 : decode cL_law 1813 = .ok (.aload_n 3, 1) := gdL_law_1812.2.1
theorem dL_law_1814 : decode cL_law 1814 = .ok (.invokestatic 261, 3) := gdL_law_1812.2.2.1
theorem dL_law_1817 : decode cL_law 1817 = .ok (.istore 5, 2) := gdL_law_1812.2.2.2.1
theorem dL_law_1819 : decode cL_law 1819 = .ok (.aload_n 2, 1) := gdL_law_1812.2.2.2.2.1
theorem dL_law_1820 : decode cL_law 1820 = .ok (.aload_n 0, 1) := gdL_law_1812.2.2.2.2.2
theorem gdL_law_1821 : (decode cL_law 1821 = .ok (.iload 4, 2)) ∧ (decode cL_law 1823 = .ok (.iconst 1, 1)) ∧ (decode cL_law 1824 = .ok (.iadd, 1)) ∧ (decode cL_law 1825 = .ok (.iaload, 1)) ∧ (decode cL_law 1826 = .ok (.aload_n 0, 1)) ∧ (decode cL_law 1827 = .ok (.iload 4, 2)) := by decide +kernel
theorem dL_law_1821 : decode cL_law 1821 = .ok (.iload 4, 2) := gdL_law_1821.1
theorem dL_law_1823 : decode cL_law 1823 = .ok (.iconst 1, 1) := gdL_law_1821.2.1
theorem dL_law_1824 : decode cL_law 1824 = .ok (.iadd, 1) := gdL_law_1821.2.2.1
theorem dL_law_1825 : decode cL_law 1825 = .ok (.iaload, 1) := gdL_law_1821.2.2.2.1
theorem dL_law_1826 : decode cL_law 1826 = .ok (.aload_n 0, 1) := gdL_law_1821.2.2.2.2.1
theorem dL_law_1827 : decode cL_law 1827 = .ok (.iload 4, 2) := gdL_law_1821.2.2.2.2.2
theorem gdL_law_1829 : (decode cL_law 1829 = .ok (.iconst 2, 1)) ∧ (decode cL_law 1830 = .ok (.iadd, 1)) ∧ (decode cL_law 1831 = .ok (.iaload, 1)) ∧ (decode cL_law 1832 = .ok (.invokevirtual 263, 3)) ∧ (decode cL_law 1835 = .ok (.istore 6, 2)) ∧ (decode cL_law 1837 = .ok (.goto 247, 3)) := by decide +kernel
theorem dL_law_1829 : decode cL_law 1829 = .ok (.iconst 2, 1) := gdL_law_1829.1
theorem dL_law_1830 : decode cL_law 1830 = .ok (.iadd, 1) := gdL_law_1829.2.1
theorem dL_law_1831 : decode cL_law 1831 = .ok (.iaload, 1) := gdL_law_1829.2.2.1
theorem dL_law_1832 : decode cL_law 1832 = .ok (.invokevirtual 263, 3) := gdL_law_1829.2.2.2.1
theorem dL_law_1835 : decode cL_law 1835 = .ok (.istore 6, 2) := gdL_law_1829.2.2.2.2.1
theorem dL_law_1837 : decode cL_law 1837 = .ok (.goto 247, 3) := gdL_law_1829.2.2.2.2.2
theorem gdL_law_1840 : (decode cL_law 1840 = .ok (.aload_n 1, 1)) ∧ (decode cL_law 1841 = .ok (.aload_n 0, 1)) ∧ (decode cL_law 1842 = .ok (.iload 4, 2)) ∧ (decode cL_law 1844 = .ok (.iconst 1, 1)) ∧ (decode cL_law 1845 = .ok (.iadd, 1)) ∧ (decode cL_law 1846 = .ok (.iaload, 1)) := by decide +kernel
theorem dL_law_1840 : decode cL_law 1840 = .ok (.aload_n 1, 1) := gdL_law_1840.1
theorem dL_law_1841 : decode cL_law 1841 = .ok (.aload_n 0, 1) := gdL_law_1840.2.1
theorem dL_law_1842 : decode cL_law 1842 = .ok (.iload 4, 2) := gdL_law_1840.2.2.1
theorem dL_law_1844 : decode cL_law 1844 = .ok (.iconst 1, 1) := gdL_law_1840.2.2.2.1
theorem dL_law_1845 : decode cL_law 1845 = .ok (.iadd, 1) := gdL_law_1840.2.2.2.2.1
theorem dL_law_1846 : decode cL_law 1846 = .ok (.iaload, 1) := gdL_law_1840.2.2.2.2.2
theorem gdL_law_1847 : (decode cL_law 1847 = .ok (.aload_n 0, 1)) ∧ (decode cL_law 1848 = .ok (.iload 4, 2)) ∧ (decode cL_law 1850 = .ok (.iconst 2, 1)) ∧ (decode cL_law 1851 = .ok (.iadd, 1)) ∧ (decode cL_law 1852 = .ok (.iaload, 1)) ∧ (decode cL_law 1853 = .ok (.aload_n 3, 1)) := by decide +kernel
theorem dL_law_1847 : decode cL_law 1847 = .ok (.aload_n 0, 1) := gdL_law_1847.1
theorem dL_law_1848 : decode cL_law 1848 = .ok (.iload 4, 2) := gdL_law_1847.2.1
theorem dL_law_1850 : decode cL_law 1850 = .ok (.iconst 2, 1) := gdL_law_1847.2.2.1
theorem dL_law_1851 : decode cL_law 1851 = .ok (.iadd, 1) := gdL_law_1847.2.2.2.1
theorem dL_law_1852 : decode cL_law 1852 = .ok (.iaload, 1) := gdL_law_1847.2.2.2.2.1
theorem dL_law_1853 : decode cL_law 1853 = .ok (.aload_n 3, 1) := gdL_law_1847.2.2.2.2.2
theorem gdL_law_1854 : (decode cL_law 1854 = .ok (.invokestatic 264, 3)) ∧ (decode cL_law 1857 = .ok (.istore 5, 2)) ∧ (decode cL_law 1859 = .ok (.aload_n 2, 1)) ∧ (decode cL_law 1860 = .ok (.aload_n 0, 1)) ∧ (decode cL_law 1861 = .ok (.iload 4, 2)) ∧ (decode cL_law 1863 = .ok (.iconst 1, 1)) := by decide +kernel
theorem dL_law_1854 : decode cL_law 1854 = .ok (.invokestatic 264, 3) := gdL_law_1854.1
theorem dL_law_1857 : decode cL_law 1857 = .ok (.istore 5, 2) := gdL_law_1854.2.1
theorem dL_law_1859 : decode cL_law 1859 = .ok (.aload_n 2, 1) := gdL_law_1854.2.2.1
theorem dL_law_1860 : decode cL_law 1860 = .ok (.aload_n 0, 1) := gdL_law_1854.2.2.2.1
theorem dL_law_1861 : decode cL_law 1861 = .ok (.iload 4, 2) := gdL_law_1854.2.2.2.2.1
theorem dL_law_1863 : decode cL_law 1863 = .ok (.iconst 1, 1) := gdL_law_1854.2.2.2.2.2
theorem gdL_law_1864 : (decode cL_law 1864 = .ok (.iadd, 1)) ∧ (decode cL_law 1865 = .ok (.iaload, 1)) ∧ (decode cL_law 1866 = .ok (.aload_n 0, 1)) ∧ (decode cL_law 1867 = .ok (.iload 4, 2)) ∧ (decode cL_law 1869 = .ok (.iconst 2, 1)) ∧ (decode cL_law 1870 = .ok (.iadd, 1)) := by decide +kernel
theorem dL_law_1864 : decode cL_law 1864 = .ok (.iadd, 1) := gdL_law_1864.1
theorem dL_law_1865 : decode cL_law 1865 = .ok (.iaload, 1) := gdL_law_1864.2.1
theorem dL_law_1866 : decode cL_law 1866 = .ok (.aload_n 0, 1) := gdL_law_1864.2.2.1
theorem dL_law_1867 : decode cL_law 1867 = .ok (.iload 4, 2) := gdL_law_1864.2.2.2.1
theorem dL_law_1869 : decode cL_law 1869 = .ok (.iconst 2, 1) := gdL_law_1864.2.2.2.2.1
theorem dL_law_1870 : decode cL_law 1870 = .ok (.iadd, 1) := gdL_law_1864.2.2.2.2.2
theorem gdL_law_1871 : (decode cL_law 1871 = .ok (.iaload, 1)) ∧ (decode cL_law 1872 = .ok (.invokevirtual 266, 3)) ∧ (decode cL_law 1875 = .ok (.istore 6, 2)) ∧ (decode cL_law 1877 = .ok (.goto 207, 3)) ∧ (decode cL_law 1880 = .ok (.aload_n 1, 1)) ∧ (decode cL_law 1881 = .ok (.aload_n 0, 1)) := by decide +kernel
theorem dL_law_1871 : decode cL_law 1871 = .ok (.iaload, 1) := gdL_law_1871.1
theorem dL_law_1872 : decode cL_law 1872 = .ok (.invokevirtual 266, 3) := gdL_law_1871.2.1
theorem dL_law_1875 : decode cL_law 1875 = .ok (.istore 6, 2) := gdL_law_1871.2.2.1
theorem dL_law_1877 : decode cL_law 1877 = .ok (.goto 207, 3) := gdL_law_1871.2.2.2.1
theorem dL_law_1880 : decode cL_law 1880 = .ok (.aload_n 1, 1) := gdL_law_1871.2.2.2.2.1
theorem dL_law_1881 : decode cL_law 1881 = .ok (.aload_n 0, 1) := gdL_law_1871.2.2.2.2.2
theorem gdL_law_1882 : (decode cL_law 1882 = .ok (.iload 4, 2)) ∧ (decode cL_law 1884 = .ok (.iconst 1, 1)) ∧ (decode cL_law 1885 = .ok (.iadd, 1)) ∧ (decode cL_law 1886 = .ok (.iaload, 1)) ∧ (decode cL_law 1887 = .ok (.aload_n 3, 1)) ∧ (decode cL_law 1888 = .ok (.invokestatic 267, 3)) := by decide +kernel
theorem dL_law_1882 : decode cL_law 1882 = .ok (.iload 4, 2) := gdL_law_1882.1
theorem dL_law_1884 : decode cL_law 1884 = .ok (.iconst 1, 1) := gdL_law_1882.2.1
theorem dL_law_1885 : decode cL_law 1885 = .ok (.iadd, 1) := gdL_law_1882.2.2.1
theorem dL_law_1886 : decode cL_law 1886 = .ok (.iaload, 1) := gdL_law_1882.2.2.2.1
theorem dL_law_1887 : decode cL_law 1887 = .ok (.aload_n 3, 1) := gdL_law_1882.2.2.2.2.1
theorem dL_law_1888 : decode cL_law 1888 = .ok (.invokestatic 267, 3) := gdL_law_1882.2.2.2.2.2
theorem gdL_law_1891 : (decode cL_law 1891 = .ok (.istore 5, 2)) ∧ (decode cL_law 1893 = .ok (.aload_n 2, 1)) ∧ (decode cL_law 1894 = .ok (.aload_n 0, 1)) ∧ (decode cL_law 1895 = .ok (.iload 4, 2)) ∧ (decode cL_law 1897 = .ok (.iconst 1, 1)) ∧ (decode cL_law 1898 = .ok (.iadd, 1)) := by decide +kernel
theorem dL_law_1891 : decode cL_law 1891 = .ok (.istore 5, 2) := gdL_law_1891.1
theorem dL_law_1893 : decode cL_law 1893 = .ok (.aload_n 2, 1) := gdL_law_1891.2.1
theorem dL_law_1894 : decode cL_law 1894 = .ok (.aload_n 0, 1) := gdL_law_1891.2.2.1
theorem dL_law_1895 : decode cL_law 1895 = .ok (.iload 4, 2) := gdL_law_1891.2.2.2.1
theorem dL_law_1897 : decode cL_law 1897 = .ok (.iconst 1, 1) := gdL_law_1891.2.2.2.2.1
theorem dL_law_1898 : decode cL_law 1898 = .ok (.iadd, 1) := gdL_law_1891.2.2.2.2.2
theorem gdL_law_1899 : (decode cL_law 1899 = .ok (.iaload, 1)) ∧ (decode cL_law 1900 = .ok (.invokevirtual 269, 3)) ∧ (decode cL_law 1903 = .ok (.astore 6, 2)) ∧ (decode cL_law 1905 = .ok (.goto 179, 3)) ∧ (decode cL_law 1908 = .ok (.aload_n 1, 1)) ∧ (decode cL_law 1909 = .ok (.aload_n 0, 1)) := by decide +kernel
theorem dL_law_1899 : decode cL_law 1899 = .ok (.iaload, 1) := gdL_law_1899.1
theorem dL_law_1900 : decode cL_law 1900 = .ok (.invokevirtual 269, 3) := gdL_law_1899.2.1
theorem dL_law_1903 : decode cL_law 1903 = .ok (.astore 6, 2) := gdL_law_1899.2.2.1
theorem dL_law_1905 : decode cL_law 1905 = .ok (.goto 179, 3) := gdL_law_1899.2.2.2.1
theorem dL_law_1908 : decode cL_law 1908 = .ok (.aload_n 1, 1) := gdL_law_1899.2.2.2.2.1
theorem dL_law_1909 : decode cL_law 1909 = .ok (.aload_n 0, 1) := gdL_law_1899.2.2.2.2.2
theorem gdL_law_1910 : (decode cL_law 1910 = .ok (.iload 4, 2)) ∧ (decode cL_law 1912 = .ok (.iconst 1, 1)) ∧ (decode cL_law 1913 = .ok (.iadd, 1)) ∧ (decode cL_law 1914 = .ok (.iaload, 1)) ∧ (decode cL_law 1915 = .ok (.aload_n 0, 1)) ∧ (decode cL_law 1916 = .ok (.iload 4, 2)) := by decide +kernel
theorem dL_law_1910 : decode cL_law 1910 = .ok (.iload 4, 2) := gdL_law_1910.1
theorem dL_law_1912 : decode cL_law 1912 = .ok (.iconst 1, 1) := gdL_law_1910.2.1
theorem dL_law_1913 : decode cL_law 1913 = .ok (.iadd, 1) := gdL_law_1910.2.2.1
theorem dL_law_1914 : decode cL_law 1914 = .ok (.iaload, 1) := gdL_law_1910.2.2.2.1
theorem dL_law_1915 : decode cL_law 1915 = .ok (.aload_n 0, 1) := gdL_law_1910.2.2.2.2.1
theorem dL_law_1916 : decode cL_law 1916 = .ok (.iload 4, 2) := gdL_law_1910.2.2.2.2.2
theorem gdL_law_1918 : (decode cL_law 1918 = .ok (.iconst 2, 1)) ∧ (decode cL_law 1919 = .ok (.iadd, 1)) ∧ (decode cL_law 1920 = .ok (.iaload, 1)) ∧ (decode cL_law 1921 = .ok (.aload_n 0, 1)) ∧ (decode cL_law 1922 = .ok (.iload 4, 2)) ∧ (decode cL_law 1924 = .ok (.iconst 3, 1)) := by decide +kernel
theorem dL_law_1918 : decode cL_law 1918 = .ok (.iconst 2, 1) := gdL_law_1918.1
theorem dL_law_1919 : decode cL_law 1919 = .ok (.iadd, 1) := gdL_law_1918.2.1
theorem dL_law_1920 : decode cL_law 1920 = .ok (.iaload, 1) := gdL_law_1918.2.2.1
theorem dL_law_1921 : decode cL_law 1921 = .ok (.aload_n 0, 1) := gdL_law_1918.2.2.2.1
theorem dL_law_1922 : decode cL_law 1922 = .ok (.iload 4, 2) := gdL_law_1918.2.2.2.2.1
theorem dL_law_1924 : decode cL_law 1924 = .ok (.iconst 3, 1) := gdL_law_1918.2.2.2.2.2
theorem gdL_law_1925 : (decode cL_law 1925 = .ok (.iadd, 1)) ∧ (decode cL_law 1926 = .ok (.iaload, 1)) ∧ (decode cL_law 1927 = .ok (.aload_n 3, 1)) ∧ (decode cL_law 1928 = .ok (.invokestatic 270, 3)) ∧ (decode cL_law 1931 = .ok (.istore 5, 2)) ∧ (decode cL_law 1933 = .ok (.aload_n 2, 1)) := by decide +kernel
theorem dL_law_1925 : decode cL_law 1925 = .ok (.iadd, 1) := gdL_law_1925.1
theorem dL_law_1926 : decode cL_law 1926 = .ok (.iaload, 1) := gdL_law_1925.2.1
theorem dL_law_1927 : decode cL_law 1927 = .ok (.aload_n 3, 1) := gdL_law_1925.2.2.1
theorem dL_law_1928 : decode cL_law 1928 = .ok (.invokestatic 270, 3) := gdL_law_1925.2.2.2.1
theorem dL_law_1931 : decode cL_law 1931 = .ok (.istore 5, 2) := gdL_law_1925.2.2.2.2.1
theorem dL_law_1933 : decode cL_law 1933 = .ok (.aload_n 2, 1) := gdL_law_1925.2.2.2.2.2
theorem gdL_law_1934 : (decode cL_law 1934 = .ok (.aload_n 0, 1)) ∧ (decode cL_law 1935 = .ok (.iload 4, 2)) ∧ (decode cL_law 1937 = .ok (.iconst 1, 1)) ∧ (decode cL_law 1938 = .ok (.iadd, 1)) ∧ (decode cL_law 1939 = .ok (.iaload, 1)) ∧ (decode cL_law 1940 = .ok (.aload_n 0, 1)) := by decide +kernel
theorem dL_law_1934 : decode cL_law 1934 = .ok (.aload_n 0, 1) := gdL_law_1934.1
theorem dL_law_1935 : decode cL_law 1935 = .ok (.iload 4, 2) := gdL_law_1934.2.1
theorem dL_law_1937 : decode cL_law 1937 = .ok (.iconst 1, 1) := gdL_law_1934.2.2.1
theorem dL_law_1938 : decode cL_law 1938 = .ok (.iadd, 1) := gdL_law_1934.2.2.2.1
theorem dL_law_1939 : decode cL_law 1939 = .ok (.iaload, 1) := gdL_law_1934.2.2.2.2.1
theorem dL_law_1940 : decode cL_law 1940 = .ok (.aload_n 0, 1) := gdL_law_1934.2.2.2.2.2
theorem gdL_law_1941 : (decode cL_law 1941 = .ok (.iload 4, 2)) ∧ (decode cL_law 1943 = .ok (.iconst 2, 1)) ∧ (decode cL_law 1944 = .ok (.iadd, 1)) ∧ (decode cL_law 1945 = .ok (.iaload, 1)) ∧ (decode cL_law 1946 = .ok (.aload_n 0, 1)) ∧ (decode cL_law 1947 = .ok (.iload 4, 2)) := by decide +kernel
theorem dL_law_1941 : decode cL_law 1941 = .ok (.iload 4, 2) := gdL_law_1941.1
theorem dL_law_1943 : decode cL_law 1943 = .ok (.iconst 2, 1) := gdL_law_1941.2.1
theorem dL_law_1944 : decode cL_law 1944 = .ok (.iadd, 1) := gdL_law_1941.2.2.1
theorem dL_law_1945 : decode cL_law 1945 = .ok (.iaload, 1) := gdL_law_1941.2.2.2.1
theorem dL_law_1946 : decode cL_law 1946 = .ok (.aload_n 0, 1) := gdL_law_1941.2.2.2.2.1
theorem dL_law_1947 : decode cL_law 1947 = .ok (.iload 4, 2) := gdL_law_1941.2.2.2.2.2
theorem gdL_law_1949 : (decode cL_law 1949 = .ok (.iconst 3, 1)) ∧ (decode cL_law 1950 = .ok (.iadd, 1)) ∧ (decode cL_law 1951 = .ok (.iaload, 1)) ∧ (decode cL_law 1952 = .ok (.invokevirtual 272, 3)) ∧ (decode cL_law 1955 = .ok (.istore 6, 2)) ∧ (decode cL_law 1957 = .ok (.goto 127, 3)) := by decide +kernel
theorem dL_law_1949 : decode cL_law 1949 = .ok (.iconst 3, 1) := gdL_law_1949.1
theorem dL_law_1950 : decode cL_law 1950 = .ok (.iadd, 1) := gdL_law_1949.2.1
theorem dL_law_1951 : decode cL_law 1951 = .ok (.iaload, 1) := gdL_law_1949.2.2.1
theorem dL_law_1952 : decode cL_law 1952 = .ok (.invokevirtual 272, 3) := gdL_law_1949.2.2.2.1
theorem dL_law_1955 : decode cL_law 1955 = .ok (.istore 6, 2) := gdL_law_1949.2.2.2.2.1
theorem dL_law_1957 : decode cL_law 1957 = .ok (.goto 127, 3) := gdL_law_1949.2.2.2.2.2
theorem gdL_law_1960 : (decode cL_law 1960 = .ok (.aload_n 1, 1)) ∧ (decode cL_law 1961 = .ok (.invokevirtual 273, 3)) ∧ (decode cL_law 1964 = .ok (.pop, 1)) ∧ (decode cL_law 1965 = .ok (.aload_n 2, 1)) ∧ (decode cL_law 1966 = .ok (.invokevirtual 277, 3)) ∧ (decode cL_law 1969 = .ok (.pop, 1)) := by decide +kernel
theorem dL_law_1960 : decode cL_law 1960 = .ok (.aload_n 1, 1) := gdL_law_1960.1
theorem dL_law_1961 : decode cL_law 1961 = .ok (.invokevirtual 273, 3) := gdL_law_1960.2.1
theorem dL_law_1964 : decode cL_law 1964 = .ok (.pop, 1) := gdL_law_1960.2.2.1
theorem dL_law_1965 : decode cL_law 1965 = .ok (.aload_n 2, 1) := gdL_law_1960.2.2.2.1
theorem dL_law_1966 : decode cL_law 1966 = .ok (.invokevirtual 277, 3) := gdL_law_1960.2.2.2.2.1
theorem dL_law_1969 : decode cL_law 1969 = .ok (.pop, 1) := gdL_law_1960.2.2.2.2.2
theorem gdL_law_1970 : (decode cL_law 1970 = .ok (.goto 114, 3)) ∧ (decode cL_law 1973 = .ok (.aload_n 1, 1)) ∧ (decode cL_law 1974 = .ok (.aload_n 0, 1)) ∧ (decode cL_law 1975 = .ok (.iload 4, 2)) ∧ (decode cL_law 1977 = .ok (.iconst 1, 1)) ∧ (decode cL_law 1978 = .ok (.iadd, 1)) := by decide +kernel
theorem dL_law_1970 : decode cL_law 1970 = .ok (.goto 114, 3) := gdL_law_1970.1
theorem dL_law_1973 : decode cL_law 1973 = .ok (.aload_n 1, 1) := gdL_law_1970.2.1
theorem dL_law_1974 : decode cL_law 1974 = .ok (.aload_n 0, 1) := gdL_law_1970.2.2.1
theorem dL_law_1975 : decode cL_law 1975 = .ok (.iload 4, 2) := gdL_law_1970.2.2.2.1
theorem dL_law_1977 : decode cL_law 1977 = .ok (.iconst 1, 1) := gdL_law_1970.2.2.2.2.1
theorem dL_law_1978 : decode cL_law 1978 = .ok (.iadd, 1) := gdL_law_1970.2.2.2.2.2
theorem gdL_law_1979 : (decode cL_law 1979 = .ok (.iaload, 1)) ∧ (decode cL_law 1980 = .ok (.aload_n 3, 1)) ∧ (decode cL_law 1981 = .ok (.invokestatic 278, 3)) ∧ (decode cL_law 1984 = .ok (.istore 5, 2)) ∧ (decode cL_law 1986 = .ok (.aload_n 2, 1)) ∧ (decode cL_law 1987 = .ok (.aload_n 0, 1)) := by decide +kernel
theorem dL_law_1979 : decode cL_law 1979 = .ok (.iaload, 1) := gdL_law_1979.1
theorem dL_law_1980 : decode cL_law 1980 = .ok (.aload_n 3, 1) := gdL_law_1979.2.1
theorem dL_law_1981 : decode cL_law 1981 = .ok (.invokestatic 278, 3) := gdL_law_1979.2.2.1
theorem dL_law_1984 : decode cL_law 1984 = .ok (.istore 5, 2) := gdL_law_1979.2.2.2.1
theorem dL_law_1986 : decode cL_law 1986 = .ok (.aload_n 2, 1) := gdL_law_1979.2.2.2.2.1
theorem dL_law_1987 : decode cL_law 1987 = .ok (.aload_n 0, 1) := gdL_law_1979.2.2.2.2.2
theorem gdL_law_1988 : (decode cL_law 1988 = .ok (.iload 4, 2)) ∧ (decode cL_law 1990 = .ok (.iconst 1, 1)) ∧ (decode cL_law 1991 = .ok (.iadd, 1)) ∧ (decode cL_law 1992 = .ok (.iaload, 1)) ∧ (decode cL_law 1993 = .ok (.invokevirtual 280, 3)) ∧ (decode cL_law 1996 = .ok (.istore 6, 2)) := by decide +kernel
theorem dL_law_1988 : decode cL_law 1988 = .ok (.iload 4, 2) := gdL_law_1988.1
theorem dL_law_1990 : decode cL_law 1990 = .ok (.iconst 1, 1) := gdL_law_1988.2.1
theorem dL_law_1991 : decode cL_law 1991 = .ok (.iadd, 1) := gdL_law_1988.2.2.1
theorem dL_law_1992 : decode cL_law 1992 = .ok (.iaload, 1) := gdL_law_1988.2.2.2.1
theorem dL_law_1993 : decode cL_law 1993 = .ok (.invokevirtual 280, 3) := gdL_law_1988.2.2.2.2.1
theorem dL_law_1996 : decode cL_law 1996 = .ok (.istore 6, 2) := gdL_law_1988.2.2.2.2.2
theorem dL_law_1998 : decode cL_law 1998 = .ok (.aload_n 2, 1) := by decide +kernel
