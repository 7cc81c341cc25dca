section MG_03awords
theorem ini_0 : Cond.initialized "java/util/Arrays" ∈ TB := TBm_1 3 rfl rfl
theorem ne_0 : ("java/util/Arrays" : String) ≠ "java/lang/invoke/MethodHandle" ∧ ("java/util/Arrays" : String) ≠ "java/lang/invoke/VarHandle" := by decide +kernel
theorem pd_0 : (parseMethodDescriptor "([II)V").map (fun d => d.parameters.length) = some 2 := by decide +kernel
theorem ini_1 : Cond.initialized "Sumlarder$Way" ∈ TB := TBm_1 5 rfl rfl
theorem ne_1 : ("Sumlarder$Way" : String) ≠ "java/lang/invoke/MethodHandle" ∧ ("Sumlarder$Way" : String) ≠ "java/lang/invoke/VarHandle" := by decide +kernel
theorem pd_1 : (parseMethodDescriptor "()V").map (fun d => d.parameters.length) = some 0 := by decide +kernel
theorem pd_2 : (parseMethodDescriptor "(II)V").map (fun d => d.parameters.length) = some 2 := by decide +kernel
theorem pd_3 : (parseMethodDescriptor "(LSumlarder$Way;)V").map (fun d => d.parameters.length) = some 1 := by decide +kernel
theorem pd_4 : (parseMethodDescriptor "(LSumlarder$Way;)Z").map (fun d => d.parameters.length) = some 1 := by decide +kernel
theorem pd_5 : (parseMethodDescriptor "(I)Z").map (fun d => d.parameters.length) = some 1 := by decide +kernel
theorem pd_6 : (parseMethodDescriptor "()I").map (fun d => d.parameters.length) = some 0 := by decide +kernel
theorem pd_7 : (parseMethodDescriptor "()Z").map (fun d => d.parameters.length) = some 0 := by decide +kernel
theorem ini_2 : Cond.initialized "Sumlarder$Series" ∈ TB := TBm_1 7 rfl rfl
theorem ne_2 : ("Sumlarder$Series" : String) ≠ "java/lang/invoke/MethodHandle" ∧ ("Sumlarder$Series" : String) ≠ "java/lang/invoke/VarHandle" := by decide +kernel
theorem pd_8 : (parseMethodDescriptor "(I)V").map (fun d => d.parameters.length) = some 1 := by decide +kernel
theorem pd_9 : (parseMethodDescriptor "(III)I").map (fun d => d.parameters.length) = some 3 := by decide +kernel
theorem ini_3 : Cond.initialized "Sumlarder$Ledger" ∈ TB := TBm_1 4 rfl rfl
theorem ne_3 : ("Sumlarder$Ledger" : String) ≠ "java/lang/invoke/MethodHandle" ∧ ("Sumlarder$Ledger" : String) ≠ "java/lang/invoke/VarHandle" := by decide +kernel
theorem pd_10 : (parseMethodDescriptor "(I)I").map (fun d => d.parameters.length) = some 1 := by decide +kernel
theorem pd_11 : (parseMethodDescriptor "(ILSumlarder$Counts;I)I").map (fun d => d.parameters.length) = some 3 := by decide +kernel
theorem ini_4 : Cond.initialized "Sumlarder$Memory" ∈ TB := TBm_1 2 rfl rfl
theorem ne_4 : ("Sumlarder$Memory" : String) ≠ "java/lang/invoke/MethodHandle" ∧ ("Sumlarder$Memory" : String) ≠ "java/lang/invoke/VarHandle" := by decide +kernel
theorem pd_12 : (parseMethodDescriptor "(III)Z").map (fun d => d.parameters.length) = some 3 := by decide +kernel
theorem pd_13 : (parseMethodDescriptor "(II)I").map (fun d => d.parameters.length) = some 2 := by decide +kernel
theorem ini_5 : Cond.initialized "Sumlarder" ∈ TB := TBm_1 1 rfl rfl
theorem ne_5 : ("Sumlarder" : String) ≠ "java/lang/invoke/MethodHandle" ∧ ("Sumlarder" : String) ≠ "java/lang/invoke/VarHandle" := by decide +kernel
theorem pd_14 : (parseMethodDescriptor "(II)Z").map (fun d => d.parameters.length) = some 2 := by decide +kernel
theorem pd_15 : (parseMethodDescriptor "(IILSumlarder$Series;)Z").map (fun d => d.parameters.length) = some 3 := by decide +kernel
theorem pd_16 : (parseMethodDescriptor "(IIILSumlarder$Counts;I)I").map (fun d => d.parameters.length) = some 5 := by decide +kernel
theorem pd_17 : (parseMethodDescriptor "(IIII)V").map (fun d => d.parameters.length) = some 4 := by decide +kernel
theorem ini_6 : Cond.initialized "Sumlarder$Counts" ∈ TB := TBm_1 6 rfl rfl
theorem ne_6 : ("Sumlarder$Counts" : String) ≠ "java/lang/invoke/MethodHandle" ∧ ("Sumlarder$Counts" : String) ≠ "java/lang/invoke/VarHandle" := by decide +kernel
theorem pd_18 : (parseMethodDescriptor "(III)V").map (fun d => d.parameters.length) = some 3 := by decide +kernel
theorem pd_19 : (parseMethodDescriptor "(IILSumlarder$Way;)Z").map (fun d => d.parameters.length) = some 3 := by decide +kernel
theorem pd_20 : (parseMethodDescriptor "(I)LSumlarder$Memory;").map (fun d => d.parameters.length) = some 1 := by decide +kernel
theorem pd_21 : (parseMethodDescriptor "(IIILSumlarder$Counts;)I").map (fun d => d.parameters.length) = some 4 := by decide +kernel
theorem pd_22 : (parseMethodDescriptor "(I)LSumlarder$Way;").map (fun d => d.parameters.length) = some 1 := by decide +kernel
theorem pd_23 : (parseMethodDescriptor "(IIII)Z").map (fun d => d.parameters.length) = some 4 := by decide +kernel
theorem pd_24 : (parseMethodDescriptor "(LSumlarder$Memory;)V").map (fun d => d.parameters.length) = some 1 := by decide +kernel
theorem pd_25 : (parseMethodDescriptor "(LSumlarder$Memory;)I").map (fun d => d.parameters.length) = some 1 := by decide +kernel
theorem pd_26 : (parseMethodDescriptor "(LSumlarder$Memory;)Z").map (fun d => d.parameters.length) = some 1 := by decide +kernel
theorem pd_27 : (parseMethodDescriptor "(I)LSumlarder$Ledger;").map (fun d => d.parameters.length) = some 1 := by decide +kernel
theorem pd_28 : (parseMethodDescriptor "(ILSumlarder$Counts;)I").map (fun d => d.parameters.length) = some 2 := by decide +kernel
theorem pd_29 : (parseMethodDescriptor "(LSumlarder$Series;)Z").map (fun d => d.parameters.length) = some 1 := by decide +kernel
theorem ini_7 : Cond.initialized "SumlarderModel" ∈ TB := TBm_1 8 rfl rfl
theorem ne_7 : ("SumlarderModel" : String) ≠ "java/lang/invoke/MethodHandle" ∧ ("SumlarderModel" : String) ≠ "java/lang/invoke/VarHandle" := by decide +kernel
theorem pd_30 : (parseMethodDescriptor "(Z)I").map (fun d => d.parameters.length) = some 1 := by decide +kernel
theorem pd_31 : (parseMethodDescriptor "(IIII)I").map (fun d => d.parameters.length) = some 4 := by decide +kernel
theorem pd_32 : (parseMethodDescriptor "(II)[I").map (fun d => d.parameters.length) = some 2 := by decide +kernel
theorem pd_33 : (parseMethodDescriptor "([IIII)I").map (fun d => d.parameters.length) = some 4 := by decide +kernel
theorem pd_34 : (parseMethodDescriptor "([I)I").map (fun d => d.parameters.length) = some 1 := by decide +kernel
theorem pd_35 : (parseMethodDescriptor "([II)I").map (fun d => d.parameters.length) = some 2 := by decide +kernel
theorem pd_36 : (parseMethodDescriptor "([I)Z").map (fun d => d.parameters.length) = some 1 := by decide +kernel
theorem pd_37 : (parseMethodDescriptor "(I)[I").map (fun d => d.parameters.length) = some 1 := by decide +kernel
theorem pd_38 : (parseMethodDescriptor "([III)Z").map (fun d => d.parameters.length) = some 3 := by decide +kernel
theorem pd_39 : (parseMethodDescriptor "(ZZ)Z").map (fun d => d.parameters.length) = some 2 := by decide +kernel
theorem pd_40 : (parseMethodDescriptor "(I[I)I").map (fun d => d.parameters.length) = some 2 := by decide +kernel
theorem pd_41 : (parseMethodDescriptor "([I)[I").map (fun d => d.parameters.length) = some 1 := by decide +kernel
theorem pd_42 : (parseMethodDescriptor "([I[I)Z").map (fun d => d.parameters.length) = some 2 := by decide +kernel

end MG_03awords
section MG_03bwords
theorem uw_X4 : ∀ w ∈ u_ws RX4 TX4 1, w ∈ TB := by
  have h : ∀ w ∈ u_ws RX4 TX4 1, decide (w ∈ tables_1) = true ∧ goodWord w = true := by decide +kernel
  exact fun w hw => TB_in (List.mem_append_right _ (of_decide_eq_true (h w hw).1)) (h w hw).2
theorem uw_X3 : ∀ w ∈ u_ws RX3 TX3 1, w ∈ TB := by
  have h : ∀ w ∈ u_ws RX3 TX3 1, decide (w ∈ tables_1) = true ∧ goodWord w = true := by decide +kernel
  exact fun w hw => TB_in (List.mem_append_right _ (of_decide_eq_true (h w hw).1)) (h w hw).2
theorem uw_X1 : ∀ w ∈ u_ws RX1 TX1 3, w ∈ TB := by
  have h : ∀ w ∈ u_ws RX1 TX1 3, decide (w ∈ tables_1) = true ∧ goodWord w = true := by decide +kernel
  exact fun w hw => TB_in (List.mem_append_right _ (of_decide_eq_true (h w hw).1)) (h w hw).2
theorem uw_X0 : ∀ w ∈ u_ws RX0 TX0 6, w ∈ TB := by
  have h : ∀ w ∈ u_ws RX0 TX0 6, decide (w ∈ tables_1) = true ∧ goodWord w = true := by decide +kernel
  exact fun w hw => TB_in (List.mem_append_right _ (of_decide_eq_true (h w hw).1)) (h w hw).2
theorem uw_X2 : ∀ w ∈ u_ws RX2 TX2 2, w ∈ TB := by
  have h : ∀ w ∈ u_ws RX2 TX2 2, decide (w ∈ tables_1) = true ∧ goodWord w = true := by decide +kernel
  exact fun w hw => TB_in (List.mem_append_right _ (of_decide_eq_true (h w hw).1)) (h w hw).2
theorem uw_X5 : ∀ w ∈ u_ws RX5 TX5 7, w ∈ TB := by
  have h : ∀ w ∈ u_ws RX5 TX5 7, decide (w ∈ tables_1) = true ∧ goodWord w = true := by decide +kernel
  exact fun w hw => TB_in (List.mem_append_right _ (of_decide_eq_true (h w hw).1)) (h w hw).2
theorem uw_X7 : ∀ w ∈ u_ws RX7 TX7 6, w ∈ TB := by
  have h : ∀ w ∈ u_ws RX7 TX7 6, decide (w ∈ tables_1) = true ∧ goodWord w = true := by decide +kernel
  exact fun w hw => TB_in (List.mem_append_right _ (of_decide_eq_true (h w hw).1)) (h w hw).2

end MG_03bwords
section MG_03cwords
theorem at_X5_260 : ∀ w ∈ vx_atS RX5 260 "java/lang/IndexOutOfBoundsException" ["java/lang/RuntimeException", "java/lang/Exception"], w ∈ TB ∨ w ∈ NGW := at_of (by decide +kernel)
theorem at_X5_271 : ∀ w ∈ vx_atS RX5 271 "java/lang/IllegalArgumentException" ["java/lang/RuntimeException", "java/lang/Exception"], w ∈ TB ∨ w ∈ NGW := at_of (by decide +kernel)

end MG_03cwords
section MG_03dwords
theorem se_X4_becomeEmpty : Cond.selects yX4_becomeEmpty.cls yX4_becomeEmpty yX4_becomeEmpty ∈ TB := TB_sel 11 (by decide +kernel) rfl
theorem se_X4_hasNoneAbove : Cond.selects yX4_hasNoneAbove.cls yX4_hasNoneAbove yX4_hasNoneAbove ∈ TB := TB_sel 12 (by decide +kernel) rfl
theorem se_X4_isOwnTurned : Cond.selects yX4_isOwnTurned.cls yX4_isOwnTurned yX4_isOwnTurned ∈ TB := TB_sel 13 (by decide +kernel) rfl
theorem se_X4_leastAboveOne : Cond.selects yX4_leastAboveOne.cls yX4_leastAboveOne yX4_leastAboveOne ∈ TB := TB_sel 14 (by decide +kernel) rfl
theorem se_X3_takeOften : Cond.selects yX3_takeOften.cls yX3_takeOften yX3_takeOften ∈ TB := TB_sel 9 (by decide +kernel) rfl
theorem se_X3_takeOnce : Cond.selects yX3_takeOnce.cls yX3_takeOnce yX3_takeOnce ∈ TB := TB_sel 8 (by decide +kernel) rfl
theorem se_X1_worthKnown : Cond.selects yX1_worthKnown.cls yX1_worthKnown yX1_worthKnown ∈ TB := TB_sel 16 (by decide +kernel) rfl
theorem se_X1_sumOfDivisors : Cond.selects yX1_sumOfDivisors.cls yX1_sumOfDivisors yX1_sumOfDivisors ∈ TB := TB_sel 19 (by decide +kernel) rfl
theorem se_X1_byDivisors : Cond.selects yX1_byDivisors.cls yX1_byDivisors yX1_byDivisors ∈ TB := TB_sel 18 (by decide +kernel) rfl
theorem se_X1_byPentagons : Cond.selects yX1_byPentagons.cls yX1_byPentagons yX1_byPentagons ∈ TB := TB_sel 17 (by decide +kernel) rfl
theorem se_X2_aspect : Cond.selects yX2_aspect.cls yX2_aspect yX2_aspect ∈ TB := TB_sel 15 (by decide +kernel) rfl
theorem se_X2_agreesWithRow : Cond.selects yX2_agreesWithRow.cls yX2_agreesWithRow yX2_agreesWithRow ∈ TB := TB_sel 20 (by decide +kernel) rfl
theorem se_X2_worthKnown : Cond.selects yX2_worthKnown.cls yX2_worthKnown yX2_worthKnown ∈ TB := TB_sel 4 (by decide +kernel) rfl
theorem se_X2_sumOfLegs : Cond.selects yX2_sumOfLegs.cls yX2_sumOfLegs yX2_sumOfLegs ∈ TB := TB_sel 5 (by decide +kernel) rfl
theorem se_X5_memoryAt : Cond.selects yX5_memoryAt.cls yX5_memoryAt yX5_memoryAt ∈ TB := TB_sel 2 (by decide +kernel) rfl
theorem se_X5_acted : Cond.selects yX5_acted.cls yX5_acted yX5_acted ∈ TB := TB_sel 6 (by decide +kernel) rfl
theorem se_X5_deskAt : Cond.selects yX5_deskAt.cls yX5_deskAt yX5_deskAt ∈ TB := TB_sel 0 (by decide +kernel) rfl
theorem se_X5_undone : Cond.selects yX5_undone.cls yX5_undone yX5_undone ∈ TB := TB_sel 7 (by decide +kernel) rfl
theorem se_X5_waysOneByOne : Cond.selects yX5_waysOneByOne.cls yX5_waysOneByOne yX5_waysOneByOne ∈ TB := TB_sel 10 (by decide +kernel) rfl
theorem se_X5_ledgerAt : Cond.selects yX5_ledgerAt.cls yX5_ledgerAt yX5_ledgerAt ∈ TB := TB_sel 3 (by decide +kernel) rfl
theorem se_X7_worth : Cond.selects yX7_worth.cls yX7_worth yX7_worth ∈ TB := TB_sel 23 (by decide +kernel) rfl
theorem se_X7_keep : Cond.selects yX7_keep.cls yX7_keep yX7_keep ∈ TB := TB_sel 24 (by decide +kernel) rfl
theorem se_X7_isThrown : Cond.selects yX7_isThrown.cls yX7_isThrown yX7_isThrown ∈ TB := TB_sel 21 (by decide +kernel) rfl
theorem se_X7_known : Cond.selects yX7_known.cls yX7_known yX7_known ∈ TB := TB_sel 22 (by decide +kernel) rfl
theorem se_X7_done : Cond.selects yX7_done.cls yX7_done yX7_done ∈ TB := TB_sel 25 (by decide +kernel) rfl
theorem se_X7_refused : Cond.selects yX7_refused.cls yX7_refused yX7_refused ∈ TB := TB_sel 26 (by decide +kernel) rfl
theorem se_X7_kept : Cond.selects yX7_kept.cls yX7_kept yX7_kept ∈ TB := TB_sel 27 (by decide +kernel) rfl
theorem se_X7_isSo : Cond.selects yX7_isSo.cls yX7_isSo yX7_isSo ∈ TB := TB_sel 29 (by decide +kernel) rfl
theorem se_X7_counted : Cond.selects yX7_counted.cls yX7_counted yX7_counted ∈ TB := TB_sel 28 (by decide +kernel) rfl
theorem se_X7_told_ : Cond.selects yX7_told_.cls yX7_told_ yX7_told_ ∈ TB := TB_sel 30 (by decide +kernel) rfl
theorem se_X7_ledgerWorth : Cond.selects yX7_ledgerWorth.cls yX7_ledgerWorth yX7_ledgerWorth ∈ TB := TB_sel 31 (by decide +kernel) rfl
theorem se_X7_ledgerTold : Cond.selects yX7_ledgerTold.cls yX7_ledgerTold yX7_ledgerTold ∈ TB := TB_sel 32 (by decide +kernel) rfl
theorem se_X7_laid : Cond.selects yX7_laid.cls yX7_laid yX7_laid ∈ TB := TB_sel 33 (by decide +kernel) rfl

end MG_03dwords
section MG_03ewords
theorem mi_J7_fill_53178 : MI yJ7_fill_53178 cJ7_fill_53178 4 2 none := ⟨TBm_1 43 rfl rfl, ini_0, ne_0, pd_0, by decide⟩
theorem mi_X4_becomeEmpty : MI yX4_becomeEmpty cX4_becomeEmpty 1 0 none := ⟨TBm_2 225 rfl rfl, ini_1, ne_1, pd_1, by decide⟩
theorem mi_X4_put : MI yX4_put cX4_put 3 2 none := ⟨TBm_2 230 rfl rfl, ini_1, ne_1, pd_2, by decide⟩
theorem mi_X4_becomeTurned : MI yX4_becomeTurned cX4_becomeTurned 4 1 none := ⟨TBm_3 16 rfl rfl, ini_1, ne_1, pd_3, by decide⟩
theorem mi_X4_isLike : MI yX4_isLike cX4_isLike 3 1 (some .boolean) := ⟨TBm_1 222 rfl rfl, ini_1, ne_1, pd_4, by decide⟩
theorem mi_X4_hasNoneAbove : MI yX4_hasNoneAbove cX4_hasNoneAbove 3 1 (some .boolean) := ⟨TBm_2 239 rfl rfl, ini_1, ne_1, pd_5, by decide⟩
theorem mi_X4_parts : MI yX4_parts cX4_parts 3 0 (some .int) := ⟨TBm_2 73 rfl rfl, ini_1, ne_1, pd_6, by decide⟩
theorem mi_X4_isUnlike : MI yX4_isUnlike cX4_isUnlike 2 0 (some .boolean) := ⟨TBm_3 4 rfl rfl, ini_1, ne_1, pd_7, by decide⟩
theorem mi_X4_isOdd : MI yX4_isOdd cX4_isOdd 2 0 (some .boolean) := ⟨TBm_3 8 rfl rfl, ini_1, ne_1, pd_7, by decide⟩
theorem mi_X4_isOwnTurned : MI yX4_isOwnTurned cX4_isOwnTurned 2 1 (some .boolean) := ⟨TBm_3 12 rfl rfl, ini_1, ne_1, pd_4, by decide⟩
theorem mi_X4_leastAboveOne : MI yX4_leastAboveOne cX4_leastAboveOne 2 0 (some .int) := ⟨TBm_3 25 rfl rfl, ini_1, ne_1, pd_6, by decide⟩
theorem mi_X3_takeOften : MI yX3_takeOften cX3_takeOften 3 1 none := ⟨TBm_2 201 rfl rfl, ini_2, ne_2, pd_8, by decide⟩
theorem mi_X3_takeOnce : MI yX3_takeOnce cX3_takeOnce 3 1 none := ⟨TBm_2 197 rfl rfl, ini_2, ne_2, pd_8, by decide⟩
theorem mi_X3_reckon : MI yX3_reckon cX3_reckon 7 2 none := ⟨TBm_2 192 rfl rfl, ini_2, ne_2, pd_2, by decide⟩
theorem mi_X3_reckoned : MI yX3_reckoned cX3_reckoned 5 3 (some .int) := ⟨TBm_2 205 rfl rfl, ini_2, ne_2, pd_9, by decide⟩
theorem mi_X1_keptWorth : MI yX1_keptWorth cX1_keptWorth 2 1 (some .int) := ⟨TBm_3 217 rfl rfl, ini_3, ne_3, pd_10, by decide⟩
theorem mi_X1_worthKnown : MI yX1_worthKnown cX1_worthKnown 5 3 (some .int) := ⟨TBm_3 186 rfl rfl, ini_3, ne_3, pd_11, by decide⟩
theorem mi_X1_sumOfDivisors : MI yX1_sumOfDivisors cX1_sumOfDivisors 5 1 (some .int) := ⟨TBm_3 198 rfl rfl, ini_3, ne_3, pd_10, by decide⟩
theorem mi_X1_byDivisors : MI yX1_byDivisors cX1_byDivisors 6 3 (some .int) := ⟨TBm_3 194 rfl rfl, ini_3, ne_3, pd_11, by decide⟩
theorem mi_X1_byPentagons : MI yX1_byPentagons cX1_byPentagons 7 3 (some .int) := ⟨TBm_3 190 rfl rfl, ini_3, ne_3, pd_11, by decide⟩
theorem mi_X2_kindOf : MI yX2_kindOf cX2_kindOf 1 1 (some .int) := ⟨TBm_2 34 rfl rfl, ini_4, ne_4, pd_10, by decide⟩
theorem mi_X2_numberOf : MI yX2_numberOf cX2_numberOf 1 1 (some .int) := ⟨TBm_2 37 rfl rfl, ini_4, ne_4, pd_10, by decide⟩
theorem mi_X2_measureOf : MI yX2_measureOf cX2_measureOf 1 1 (some .int) := ⟨TBm_2 40 rfl rfl, ini_4, ne_4, pd_10, by decide⟩
theorem mi_X2_slotOf : MI yX2_slotOf cX2_slotOf 3 3 (some .int) := ⟨TBm_2 131 rfl rfl, ini_4, ne_4, pd_9, by decide⟩
theorem mi_X2_keptWorth : MI yX2_keptWorth cX2_keptWorth 5 3 (some .int) := ⟨TBm_2 184 rfl rfl, ini_4, ne_4, pd_9, by decide⟩
theorem mi_X2_keeps : MI yX2_keeps cX2_keeps 4 3 (some .boolean) := ⟨TBm_2 180 rfl rfl, ini_4, ne_4, pd_12, by decide⟩
theorem mi_X2_aspect : MI yX2_aspect cX2_aspect 3 2 (some .int) := ⟨TBm_3 64 rfl rfl, ini_4, ne_4, pd_13, by decide⟩
theorem mi_X2_codeOf : MI yX2_codeOf cX2_codeOf 1 1 (some .int) := ⟨TBm_2 31 rfl rfl, ini_4, ne_4, pd_10, by decide⟩
theorem mi_X5_rests : MI yX5_rests cX5_rests 2 2 (some .boolean) := ⟨TBm_2 125 rfl rfl, ini_5, ne_5, pd_14, by decide⟩
theorem mi_X2_agreesWithRow : MI yX2_agreesWithRow cX2_agreesWithRow 5 3 (some .boolean) := ⟨TBm_5 135 rfl rfl, ini_4, ne_4, pd_15, by decide⟩
theorem mi_X2_worthKnown : MI yX2_worthKnown cX2_worthKnown 8 5 (some .int) := ⟨TBm_2 122 rfl rfl, ini_4, ne_4, pd_16, by decide⟩
theorem mi_X2_sumOfLegs : MI yX2_sumOfLegs cX2_sumOfLegs 7 5 (some .int) := ⟨TBm_2 135 rfl rfl, ini_4, ne_4, pd_16, by decide⟩
theorem mi_X2_keep : MI yX2_keep cX2_keep 6 4 none := ⟨TBm_2 139 rfl rfl, ini_4, ne_4, pd_17, by decide⟩
theorem mi_X5_restingWorth : MI yX5_restingWorth cX5_restingWorth 3 3 (some .int) := ⟨TBm_2 128 rfl rfl, ini_5, ne_5, pd_9, by decide⟩
theorem mi_X2_init : MI yX2_init cX2_init 1 0 none := ⟨TBm_1 39 rfl rfl, ini_4, ne_4, pd_1, by decide⟩
theorem mi_X1_init : MI yX1_init cX1_init 2 1 none := ⟨TBm_1 57 rfl rfl, ini_3, ne_3, pd_8, by decide⟩
theorem mi_X4_init : MI yX4_init cX4_init 1 0 none := ⟨TBm_1 75 rfl rfl, ini_1, ne_1, pd_1, by decide⟩
theorem mi_X0_init : MI yX0_init cX0_init 1 0 none := ⟨TBm_1 85 rfl rfl, ini_6, ne_6, pd_1, by decide⟩
theorem mi_X3_init : MI yX3_init cX3_init 1 0 none := ⟨TBm_1 116 rfl rfl, ini_2, ne_2, pd_1, by decide⟩
theorem mi_X5_checkRange : MI yX5_checkRange cX5_checkRange 3 3 none := ⟨TBm_2 4 rfl rfl, ini_5, ne_5, pd_18, by decide⟩
theorem mi_X4_becomeFirst : MI yX4_becomeFirst cX4_becomeFirst 2 1 none := ⟨TBm_2 221 rfl rfl, ini_1, ne_1, pd_8, by decide⟩
theorem mi_X4_isOfKind : MI yX4_isOfKind cX4_isOfKind 4 3 (some .boolean) := ⟨TBm_2 235 rfl rfl, ini_1, ne_1, pd_19, by decide⟩
theorem mi_X4_stepOn : MI yX4_stepOn cX4_stepOn 4 0 (some .boolean) := ⟨TBm_3 21 rfl rfl, ini_1, ne_1, pd_7, by decide⟩
theorem mi_X5_memoryAt : MI yX5_memoryAt cX5_memoryAt 2 1 (some (.object "Sumlarder$Memory")) := ⟨TBm_2 0 rfl rfl, ini_5, ne_5, pd_20, by decide⟩
theorem mi_X5_checkCase : MI yX5_checkCase cX5_checkCase 3 3 none := ⟨TBm_2 114 rfl rfl, ini_5, ne_5, pd_18, by decide⟩
theorem mi_X2_recall : MI yX2_recall cX2_recall 5 4 (some .int) := ⟨TBm_2 118 rfl rfl, ini_4, ne_4, pd_21, by decide⟩
theorem mi_X5_acted : MI yX5_acted cX5_acted 2 1 (some .int) := ⟨TBm_2 143 rfl rfl, ini_5, ne_5, pd_10, by decide⟩
theorem mi_X5_deskAt : MI yX5_deskAt cX5_deskAt 2 1 (some (.object "Sumlarder$Way")) := ⟨TBm_1 151 rfl rfl, ini_5, ne_5, pd_22, by decide⟩
theorem mi_X4_sum : MI yX4_sum cX4_sum 3 0 (some .int) := ⟨TBm_2 69 rfl rfl, ini_1, ne_1, pd_6, by decide⟩
theorem mi_X4_timesOf : MI yX4_timesOf cX4_timesOf 2 1 (some .int) := ⟨TBm_2 85 rfl rfl, ini_1, ne_1, pd_10, by decide⟩
theorem mi_X3_tells : MI yX3_tells cX3_tells 4 3 (some .int) := ⟨TBm_2 188 rfl rfl, ini_2, ne_2, pd_9, by decide⟩
theorem mi_X5_undone : MI yX5_undone cX5_undone 1 0 (some .int) := ⟨TBm_2 176 rfl rfl, ini_5, ne_5, pd_6, by decide⟩
theorem mi_X5_waysOneByOne : MI yX5_waysOneByOne cX5_waysOneByOne 6 3 (some .int) := ⟨TBm_2 217 rfl rfl, ini_5, ne_5, pd_9, by decide⟩
theorem mi_X2_drop : MI yX2_drop cX2_drop 5 3 none := ⟨TBm_3 37 rfl rfl, ini_4, ne_4, pd_18, by decide⟩
theorem mi_X2_keepsWith : MI yX2_keepsWith cX2_keepsWith 5 4 (some .boolean) := ⟨TBm_3 48 rfl rfl, ini_4, ne_4, pd_23, by decide⟩
theorem mi_X2_dropEach : MI yX2_dropEach cX2_dropEach 5 2 (some .int) := ⟨TBm_3 60 rfl rfl, ini_4, ne_4, pd_13, by decide⟩
theorem mi_X2_dropAll : MI yX2_dropAll cX2_dropAll 2 0 (some .int) := ⟨TBm_3 75 rfl rfl, ini_4, ne_4, pd_6, by decide⟩
theorem mi_X2_become : MI yX2_become cX2_become 2 1 none := ⟨TBm_3 86 rfl rfl, ini_4, ne_4, pd_24, by decide⟩
theorem mi_X2_size : MI yX2_size cX2_size 1 0 (some .int) := ⟨TBm_2 24 rfl rfl, ini_4, ne_4, pd_6, by decide⟩
theorem mi_X2_takeIn : MI yX2_takeIn cX2_takeIn 4 1 (some .int) := ⟨TBm_3 100 rfl rfl, ini_4, ne_4, pd_25, by decide⟩
theorem mi_X2_mark : MI yX2_mark cX2_mark 3 0 (some .int) := ⟨TBm_2 28 rfl rfl, ini_4, ne_4, pd_6, by decide⟩
theorem mi_X2_sumOfWorths : MI yX2_sumOfWorths cX2_sumOfWorths 3 0 (some .int) := ⟨TBm_2 44 rfl rfl, ini_4, ne_4, pd_6, by decide⟩
theorem mi_X2_howMany : MI yX2_howMany cX2_howMany 5 2 (some .int) := ⟨TBm_3 136 rfl rfl, ini_4, ne_4, pd_13, by decide⟩
theorem mi_X2_isLike : MI yX2_isLike cX2_isLike 3 1 (some .boolean) := ⟨TBm_3 154 rfl rfl, ini_4, ne_4, pd_26, by decide⟩
theorem mi_X5_checkAnyCase : MI yX5_checkAnyCase cX5_checkAnyCase 3 3 none := ⟨TBm_3 164 rfl rfl, ini_5, ne_5, pd_18, by decide⟩
theorem mi_X5_ledgerAt : MI yX5_ledgerAt cX5_ledgerAt 2 1 (some (.object "Sumlarder$Ledger")) := ⟨TBm_2 52 rfl rfl, ini_5, ne_5, pd_27, by decide⟩
theorem mi_X1_recall : MI yX1_recall cX1_recall 3 2 (some .int) := ⟨TBm_3 182 rfl rfl, ini_3, ne_3, pd_28, by decide⟩
theorem mi_X1_keeps : MI yX1_keeps cX1_keeps 2 1 (some .boolean) := ⟨TBm_3 213 rfl rfl, ini_3, ne_3, pd_5, by decide⟩
theorem mi_X1_drop : MI yX1_drop cX1_drop 2 1 none := ⟨TBm_3 222 rfl rfl, ini_3, ne_3, pd_8, by decide⟩
theorem mi_X1_dropAll : MI yX1_dropAll cX1_dropAll 2 0 (some .int) := ⟨TBm_3 209 rfl rfl, ini_3, ne_3, pd_6, by decide⟩
theorem mi_X1_mark : MI yX1_mark cX1_mark 3 0 (some .int) := ⟨TBm_2 61 rfl rfl, ini_3, ne_3, pd_6, by decide⟩
theorem mi_X1_size : MI yX1_size cX1_size 1 0 (some .int) := ⟨TBm_2 57 rfl rfl, ini_3, ne_3, pd_6, by decide⟩
theorem mi_X4_become : MI yX4_become cX4_become 2 1 none := ⟨TBm_4 34 rfl rfl, ini_1, ne_1, pd_3, by decide⟩
theorem mi_X4_becomeUnlike : MI yX4_becomeUnlike cX4_becomeUnlike 5 1 none := ⟨TBm_4 47 rfl rfl, ini_1, ne_1, pd_3, by decide⟩
theorem mi_X4_becomeOdd : MI yX4_becomeOdd cX4_becomeOdd 4 1 none := ⟨TBm_4 59 rfl rfl, ini_1, ne_1, pd_3, by decide⟩
theorem mi_X4_differentParts : MI yX4_differentParts cX4_differentParts 3 0 (some .int) := ⟨TBm_2 77 rfl rfl, ini_1, ne_1, pd_6, by decide⟩
theorem mi_X2_agreesWith : MI yX2_agreesWith cX2_agreesWith 4 1 (some .boolean) := ⟨TBm_5 130 rfl rfl, ini_4, ne_4, pd_29, by decide⟩
theorem mi_X2_isWellCounted : MI yX2_isWellCounted cX2_isWellCounted 3 0 (some .boolean) := ⟨TBm_5 140 rfl rfl, ini_4, ne_4, pd_7, by decide⟩
theorem mi_X5_about : MI yX5_about cX5_about 4 2 (some .int) := ⟨TBm_1 236 rfl rfl, ini_5, ne_5, pd_13, by decide⟩
theorem mi_X5_ledger : MI yX5_ledger cX5_ledger 4 2 (some .int) := ⟨TBm_2 48 rfl rfl, ini_5, ne_5, pd_13, by decide⟩
theorem mi_X5_way : MI yX5_way cX5_way 4 2 (some .int) := ⟨TBm_2 65 rfl rfl, ini_5, ne_5, pd_13, by decide⟩
theorem mi_X5_times : MI yX5_times cX5_times 4 2 (some .int) := ⟨TBm_2 81 rfl rfl, ini_5, ne_5, pd_13, by decide⟩
theorem mi_X5_tally : MI yX5_tally cX5_tally 2 1 (some .int) := ⟨TBm_2 89 rfl rfl, ini_5, ne_5, pd_10, by decide⟩
theorem mi_X7_isNo : MI yX7_isNo cX7_isNo 3 3 (some .boolean) := ⟨TBm_5 178 rfl rfl, ini_7, ne_7, pd_12, by decide⟩
theorem mi_X7_rests : MI yX7_rests cX7_rests 2 2 (some .boolean) := ⟨TBm_5 192 rfl rfl, ini_7, ne_7, pd_14, by decide⟩
theorem mi_X7_bit : MI yX7_bit cX7_bit 1 1 (some .int) := ⟨TBm_5 202 rfl rfl, ini_7, ne_7, pd_30, by decide⟩
theorem mi_X7_code : MI yX7_code cX7_code 3 3 (some .int) := ⟨TBm_5 199 rfl rfl, ini_7, ne_7, pd_9, by decide⟩
theorem mi_X7_worth : MI yX7_worth cX7_worth 5 4 (some .int) := ⟨TBm_5 196 rfl rfl, ini_7, ne_7, pd_31, by decide⟩
theorem mi_X7_hasLeg : MI yX7_hasLeg cX7_hasLeg 3 3 (some .boolean) := ⟨TBm_5 211 rfl rfl, ini_7, ne_7, pd_12, by decide⟩
theorem mi_X7_legNumber : MI yX7_legNumber cX7_legNumber 4 4 (some .int) := ⟨TBm_5 205 rfl rfl, ini_7, ne_7, pd_31, by decide⟩
theorem mi_X7_legMeasure : MI yX7_legMeasure cX7_legMeasure 4 3 (some .int) := ⟨TBm_5 208 rfl rfl, ini_7, ne_7, pd_9, by decide⟩
theorem mi_X7_keep : MI yX7_keep cX7_keep 7 4 none := ⟨TBm_5 215 rfl rfl, ini_7, ne_7, pd_17, by decide⟩
theorem mi_X7_row : MI yX7_row cX7_row 9 2 (some (.array .int)) := ⟨TBm_6 8 rfl rfl, ini_7, ne_7, pd_32, by decide⟩
theorem mi_X7_told : MI yX7_told cX7_told 5 4 (some .int) := ⟨TBm_6 11 rfl rfl, ini_7, ne_7, pd_33, by decide⟩
theorem mi_X7_parts : MI yX7_parts cX7_parts 3 1 (some .int) := ⟨TBm_6 34 rfl rfl, ini_7, ne_7, pd_34, by decide⟩
theorem mi_X7_unlikeOnes : MI yX7_unlikeOnes cX7_unlikeOnes 3 1 (some .int) := ⟨TBm_6 40 rfl rfl, ini_7, ne_7, pd_34, by decide⟩
theorem mi_X7_greatest : MI yX7_greatest cX7_greatest 2 1 (some .int) := ⟨TBm_6 31 rfl rfl, ini_7, ne_7, pd_34, by decide⟩
theorem mi_X7_partAt : MI yX7_partAt cX7_partAt 4 2 (some .int) := ⟨TBm_6 49 rfl rfl, ini_7, ne_7, pd_35, by decide⟩
theorem mi_X7_isUnlike : MI yX7_isUnlike cX7_isUnlike 1 1 (some .boolean) := ⟨TBm_6 37 rfl rfl, ini_7, ne_7, pd_36, by decide⟩
theorem mi_X7_isOdd : MI yX7_isOdd cX7_isOdd 3 1 (some .boolean) := ⟨TBm_6 43 rfl rfl, ini_7, ne_7, pd_36, by decide⟩
theorem mi_X7_isOwnTurned : MI yX7_isOwnTurned cX7_isOwnTurned 4 1 (some .boolean) := ⟨TBm_6 46 rfl rfl, ini_7, ne_7, pd_36, by decide⟩
theorem mi_X7_firstWay : MI yX7_firstWay cX7_firstWay 2 1 (some (.array .int)) := ⟨TBm_6 25 rfl rfl, ini_7, ne_7, pd_37, by decide⟩
theorem mi_X7_isOfKind : MI yX7_isOfKind cX7_isOfKind 3 3 (some .boolean) := ⟨TBm_6 28 rfl rfl, ini_7, ne_7, pd_38, by decide⟩
theorem mi_X7_isNext : MI yX7_isNext cX7_isNext 4 1 (some .boolean) := ⟨TBm_6 52 rfl rfl, ini_7, ne_7, pd_36, by decide⟩
theorem mi_X7_isOut : MI yX7_isOut cX7_isOut 3 3 (some .boolean) := ⟨TBm_5 181 rfl rfl, ini_7, ne_7, pd_12, by decide⟩
theorem mi_X7_isThrown : MI yX7_isThrown cX7_isThrown 3 2 (some .boolean) := ⟨TBm_5 185 rfl rfl, ini_7, ne_7, pd_39, by decide⟩
theorem mi_X7_known : MI yX7_known cX7_known 12 4 (some .int) := ⟨TBm_5 189 rfl rfl, ini_7, ne_7, pd_31, by decide⟩
theorem mi_X7_done : MI yX7_done cX7_done 2 1 (some .int) := ⟨TBm_5 219 rfl rfl, ini_7, ne_7, pd_10, by decide⟩
theorem mi_X7_number : MI yX7_number cX7_number 3 1 (some .int) := ⟨TBm_5 234 rfl rfl, ini_7, ne_7, pd_34, by decide⟩
theorem mi_X7_series : MI yX7_series cX7_series 3 3 (some .int) := ⟨TBm_6 5 rfl rfl, ini_7, ne_7, pd_9, by decide⟩
theorem mi_X7_refused : MI yX7_refused cX7_refused 1 0 (some .int) := ⟨TBm_6 2 rfl rfl, ini_7, ne_7, pd_6, by decide⟩
theorem mi_X7_kept : MI yX7_kept cX7_kept 5 4 (some .int) := ⟨TBm_6 19 rfl rfl, ini_7, ne_7, pd_31, by decide⟩
theorem mi_X7_walked : MI yX7_walked cX7_walked 5 3 (some .int) := ⟨TBm_6 22 rfl rfl, ini_7, ne_7, pd_9, by decide⟩
theorem mi_X7_measureOf : MI yX7_measureOf cX7_measureOf 1 1 (some .int) := ⟨TBm_6 81 rfl rfl, ini_7, ne_7, pd_10, by decide⟩
theorem mi_X7_numberOf : MI yX7_numberOf cX7_numberOf 1 1 (some .int) := ⟨TBm_6 78 rfl rfl, ini_7, ne_7, pd_10, by decide⟩
theorem mi_X7_kindOf : MI yX7_kindOf cX7_kindOf 1 1 (some .int) := ⟨TBm_6 75 rfl rfl, ini_7, ne_7, pd_10, by decide⟩
theorem mi_X7_isSo : MI yX7_isSo cX7_isSo 6 4 (some .boolean) := ⟨TBm_6 72 rfl rfl, ini_7, ne_7, pd_23, by decide⟩
theorem mi_X7_counted : MI yX7_counted cX7_counted 6 3 (some .int) := ⟨TBm_6 68 rfl rfl, ini_7, ne_7, pd_9, by decide⟩
theorem mi_X7_told_ : MI yX7_told_ cX7_told_ 6 2 (some .int) := ⟨TBm_6 89 rfl rfl, ini_7, ne_7, pd_13, by decide⟩
theorem mi_X7_ledgerWorth : MI yX7_ledgerWorth cX7_ledgerWorth 3 2 (some .int) := ⟨TBm_6 144 rfl rfl, ini_7, ne_7, pd_13, by decide⟩
theorem mi_X7_factor : MI yX7_factor cX7_factor 4 2 (some .int) := ⟨TBm_6 140 rfl rfl, ini_7, ne_7, pd_13, by decide⟩
theorem mi_X7_ledgerTold : MI yX7_ledgerTold cX7_ledgerTold 5 2 (some .int) := ⟨TBm_6 152 rfl rfl, ini_7, ne_7, pd_13, by decide⟩
theorem mi_X7_laid : MI yX7_laid cX7_laid 4 2 (some .int) := ⟨TBm_6 176 rfl rfl, ini_7, ne_7, pd_40, by decide⟩
theorem mi_X7_turned : MI yX7_turned cX7_turned 4 1 (some (.array .int)) := ⟨TBm_6 187 rfl rfl, ini_7, ne_7, pd_41, by decide⟩
theorem mi_X7_areSame : MI yX7_areSame cX7_areSame 4 2 (some .boolean) := ⟨TBm_6 190 rfl rfl, ini_7, ne_7, pd_42, by decide⟩

end MG_03ewords
section MG_03fwords
theorem fl_X4_9 : FG RX4 9 6 0 (.array .int) true := ⟨RX4, TX4, 1, tyX4, rfl, by decide, uw_X4, TBm_1 77 rfl rfl, tyX4_ok, nmX4, rfl, rfl⟩
theorem st_J7_fill_53178 : Cond.static yJ7_fill_53178 ∈ TB := TBm_1 42 rfl rfl
theorem ml_X4_47 : Cond.methodLink RX4 47 yJ7_fill_53178 ∈ TB := TBm_2 226 rfl rfl
theorem im_X4_becomeEmpty : Cond.instanceMethod yX4_becomeEmpty ∈ TB := TBm_2 224 rfl rfl
theorem ml_X4_53 : Cond.methodLink RX4 53 yX4_becomeEmpty ∈ TB := TBm_2 222 rfl rfl
theorem im_X4_put : Cond.instanceMethod yX4_put ∈ TB := TBm_2 228 rfl rfl
theorem se_X4_put : Cond.selects yX4_put.cls yX4_put yX4_put ∈ TB := TBm_2 229 rfl rfl
theorem ml_X4_56 : Cond.methodLink RX4 56 yX4_put ∈ TB := TBm_2 227 rfl rfl
theorem ml_X4_41 : Cond.methodLink RX4 41 arraycopyName ∈ TB := TBm_4 35 rfl rfl
theorem w_ac : Cond.native arraycopyName ∈ TB ∧ Cond.static arraycopyName ∈ TB ∧ Cond.initialized "java/lang/System" ∈ TB := ⟨TBm_3 89 rfl rfl, TBm_3 88 rfl rfl, TBm_1 15 rfl rfl⟩
theorem im_X4_becomeTurned : Cond.instanceMethod yX4_becomeTurned ∈ TB := TBm_3 14 rfl rfl
theorem se_X4_becomeTurned : Cond.selects yX4_becomeTurned.cls yX4_becomeTurned yX4_becomeTurned ∈ TB := TBm_3 15 rfl rfl
theorem ml_X4_15 : Cond.methodLink RX4 15 yX4_becomeTurned ∈ TB := TBm_3 13 rfl rfl
theorem im_X4_isLike : Cond.instanceMethod yX4_isLike ∈ TB := TBm_1 220 rfl rfl
theorem se_X4_isLike : Cond.selects yX4_isLike.cls yX4_isLike yX4_isLike ∈ TB := TBm_1 221 rfl rfl
theorem ml_X4_19 : Cond.methodLink RX4 19 yX4_isLike ∈ TB := TBm_3 17 rfl rfl
theorem im_X4_hasNoneAbove : Cond.instanceMethod yX4_hasNoneAbove ∈ TB := TBm_2 238 rfl rfl
theorem ml_X4_23 : Cond.methodLink RX4 23 yX4_hasNoneAbove ∈ TB := TBm_2 236 rfl rfl
theorem im_X4_parts : Cond.instanceMethod yX4_parts ∈ TB := TBm_2 71 rfl rfl
theorem se_X4_parts : Cond.selects yX4_parts.cls yX4_parts yX4_parts ∈ TB := TBm_2 72 rfl rfl
theorem ml_X4_27 : Cond.methodLink RX4 27 yX4_parts ∈ TB := TBm_3 0 rfl rfl
theorem im_X4_isUnlike : Cond.instanceMethod yX4_isUnlike ∈ TB := TBm_3 2 rfl rfl
theorem se_X4_isUnlike : Cond.selects yX4_isUnlike.cls yX4_isUnlike yX4_isUnlike ∈ TB := TBm_3 3 rfl rfl
theorem ml_X4_31 : Cond.methodLink RX4 31 yX4_isUnlike ∈ TB := TBm_3 1 rfl rfl
theorem im_X4_isOdd : Cond.instanceMethod yX4_isOdd ∈ TB := TBm_3 6 rfl rfl
theorem se_X4_isOdd : Cond.selects yX4_isOdd.cls yX4_isOdd yX4_isOdd ∈ TB := TBm_3 7 rfl rfl
theorem ml_X4_35 : Cond.methodLink RX4 35 yX4_isOdd ∈ TB := TBm_3 5 rfl rfl
theorem im_X4_isOwnTurned : Cond.instanceMethod yX4_isOwnTurned ∈ TB := TBm_3 11 rfl rfl
theorem ml_X4_38 : Cond.methodLink RX4 38 yX4_isOwnTurned ∈ TB := TBm_3 9 rfl rfl
theorem im_X4_leastAboveOne : Cond.instanceMethod yX4_leastAboveOne ∈ TB := TBm_3 24 rfl rfl
theorem ml_X4_60 : Cond.methodLink RX4 60 yX4_leastAboveOne ∈ TB := TBm_3 22 rfl rfl
theorem fl_X3_9 : FG RX3 9 5 0 (.array .int) true := ⟨RX3, TX3, 1, tyX3, rfl, by decide, uw_X3, TBm_1 118 rfl rfl, tyX3_ok, nmX3, rfl, rfl⟩
theorem ml_X3_23 : Cond.methodLink RX3 23 yJ7_fill_53178 ∈ TB := TBm_2 193 rfl rfl
theorem im_X3_takeOften : Cond.instanceMethod yX3_takeOften ∈ TB := TBm_2 200 rfl rfl
theorem ml_X3_33 : Cond.methodLink RX3 33 yX3_takeOften ∈ TB := TBm_2 198 rfl rfl
theorem im_X3_takeOnce : Cond.instanceMethod yX3_takeOnce ∈ TB := TBm_2 196 rfl rfl
theorem ml_X3_29 : Cond.methodLink RX3 29 yX3_takeOnce ∈ TB := TBm_2 194 rfl rfl
theorem im_X3_reckon : Cond.instanceMethod yX3_reckon ∈ TB := TBm_2 190 rfl rfl
theorem se_X3_reckon : Cond.selects yX3_reckon.cls yX3_reckon yX3_reckon ∈ TB := TBm_2 191 rfl rfl
theorem ml_X3_15 : Cond.methodLink RX3 15 yX3_reckon ∈ TB := TBm_2 189 rfl rfl
theorem im_X3_reckoned : Cond.instanceMethod yX3_reckoned ∈ TB := TBm_2 203 rfl rfl
theorem se_X3_reckoned : Cond.selects yX3_reckoned.cls yX3_reckoned yX3_reckoned ∈ TB := TBm_2 204 rfl rfl
theorem ml_X3_19 : Cond.methodLink RX3 19 yX3_reckoned ∈ TB := TBm_2 202 rfl rfl
theorem fl_X1_25 : FG RX1 25 3 2 .int false := ⟨RX1, TX1, 3, tyX1, rfl, by decide, uw_X1, TBm_1 62 rfl rfl, tyX1_ok, nmX1, rfl, rfl⟩
theorem fl_X1_9 : FG RX1 9 3 1 (.array .int) true := ⟨RX1, TX1, 3, tyX1, rfl, by decide, uw_X1, TBm_1 61 rfl rfl, tyX1_ok, nmX1, rfl, rfl⟩
theorem im_X1_keptWorth : Cond.instanceMethod yX1_keptWorth ∈ TB := TBm_3 215 rfl rfl
theorem se_X1_keptWorth : Cond.selects yX1_keptWorth.cls yX1_keptWorth yX1_keptWorth ∈ TB := TBm_3 216 rfl rfl
theorem ml_X1_53 : Cond.methodLink RX1 53 yX1_keptWorth ∈ TB := TBm_3 214 rfl rfl
theorem fl_X1_15 : FG RX1 15 3 0 .int true := ⟨RX1, TX1, 3, tyX1, rfl, by decide, uw_X1, TBm_1 60 rfl rfl, tyX1_ok, nmX1, rfl, rfl⟩
theorem ml_X1_19 : Cond.methodLink RX1 19 yJ7_fill_53178 ∈ TB := TBm_1 59 rfl rfl
theorem im_X1_worthKnown : Cond.instanceMethod yX1_worthKnown ∈ TB := TBm_3 185 rfl rfl
theorem ml_X1_28 : Cond.methodLink RX1 28 yX1_worthKnown ∈ TB := TBm_3 183 rfl rfl
theorem im_X1_sumOfDivisors : Cond.instanceMethod yX1_sumOfDivisors ∈ TB := TBm_3 197 rfl rfl
theorem ml_X1_49 : Cond.methodLink RX1 49 yX1_sumOfDivisors ∈ TB := TBm_3 195 rfl rfl
theorem fl_X1_32 : FG RX1 32 2 1 .int false := ⟨RX0, TX0, 6, tyX0, rfl, by decide, uw_X0, TBm_1 88 rfl rfl, tyX0_ok, nmX0, rfl, rfl⟩
theorem im_X1_byDivisors : Cond.instanceMethod yX1_byDivisors ∈ TB := TBm_3 193 rfl rfl
theorem ml_X1_43 : Cond.methodLink RX1 43 yX1_byDivisors ∈ TB := TBm_3 191 rfl rfl
theorem fl_X1_46 : FG RX1 46 2 2 .int false := ⟨RX0, TX0, 6, tyX0, rfl, by decide, uw_X0, TBm_1 92 rfl rfl, tyX0_ok, nmX0, rfl, rfl⟩
theorem im_X1_byPentagons : Cond.instanceMethod yX1_byPentagons ∈ TB := TBm_3 189 rfl rfl
theorem ml_X1_40 : Cond.methodLink RX1 40 yX1_byPentagons ∈ TB := TBm_3 187 rfl rfl
theorem fl_X1_37 : FG RX1 37 2 3 .int false := ⟨RX0, TX0, 6, tyX0, rfl, by decide, uw_X0, TBm_1 94 rfl rfl, tyX0_ok, nmX0, rfl, rfl⟩
theorem st_X2_kindOf : Cond.static yX2_kindOf ∈ TB := TBm_2 33 rfl rfl
theorem ml_X2_98 : Cond.methodLink RX2 98 yX2_kindOf ∈ TB := TBm_2 32 rfl rfl
theorem st_X2_numberOf : Cond.static yX2_numberOf ∈ TB := TBm_2 36 rfl rfl
theorem ml_X2_92 : Cond.methodLink RX2 92 yX2_numberOf ∈ TB := TBm_2 35 rfl rfl
theorem st_X2_measureOf : Cond.static yX2_measureOf ∈ TB := TBm_2 39 rfl rfl
theorem ml_X2_95 : Cond.methodLink RX2 95 yX2_measureOf ∈ TB := TBm_2 38 rfl rfl
theorem fl_X2_21 : FG RX2 21 4 1 .int false := ⟨RX2, TX2, 2, tyX2, rfl, by decide, uw_X2, TBm_1 45 rfl rfl, tyX2_ok, nmX2, rfl, rfl⟩
theorem st_X2_slotOf : Cond.static yX2_slotOf ∈ TB := TBm_2 130 rfl rfl
theorem ml_X2_37 : Cond.methodLink RX2 37 yX2_slotOf ∈ TB := TBm_2 129 rfl rfl
theorem fl_X2_11 : FG RX2 11 4 0 (.array .int) true := ⟨RX2, TX2, 2, tyX2, rfl, by decide, uw_X2, TBm_1 44 rfl rfl, tyX2_ok, nmX2, rfl, rfl⟩
theorem im_X2_keptWorth : Cond.instanceMethod yX2_keptWorth ∈ TB := TBm_2 182 rfl rfl
theorem se_X2_keptWorth : Cond.selects yX2_keptWorth.cls yX2_keptWorth yX2_keptWorth ∈ TB := TBm_2 183 rfl rfl
theorem ml_X2_58 : Cond.methodLink RX2 58 yX2_keptWorth ∈ TB := TBm_2 181 rfl rfl
theorem im_X2_keeps : Cond.instanceMethod yX2_keeps ∈ TB := TBm_2 178 rfl rfl
theorem se_X2_keeps : Cond.selects yX2_keeps.cls yX2_keeps yX2_keeps ∈ TB := TBm_2 179 rfl rfl
theorem ml_X2_61 : Cond.methodLink RX2 61 yX2_keeps ∈ TB := TBm_3 49 rfl rfl
theorem im_X2_aspect : Cond.instanceMethod yX2_aspect ∈ TB := TBm_3 63 rfl rfl
theorem ml_X2_65 : Cond.methodLink RX2 65 yX2_aspect ∈ TB := TBm_3 61 rfl rfl
theorem ml_X2_15 : Cond.methodLink RX2 15 yJ7_fill_53178 ∈ TB := TBm_1 41 rfl rfl
theorem st_X2_codeOf : Cond.static yX2_codeOf ∈ TB := TBm_2 30 rfl rfl
theorem ml_X2_75 : Cond.methodLink RX2 75 yX2_codeOf ∈ TB := TBm_2 29 rfl rfl
theorem st_X5_rests : Cond.static yX5_rests ∈ TB := TBm_2 124 rfl rfl
theorem mn_X2_29 : Cond.methodLinkNest RX2 29 yX5_rests "Sumlarder" ∈ NGW := NGm_2 123 rfl rfl
theorem ml_X2_69 : Cond.methodLink RX2 69 arraycopyName ∈ TB := TBm_3 87 rfl rfl
theorem ml_X2_89 : Cond.methodLink RX2 89 yX3_reckoned ∈ TB := TBm_5 136 rfl rfl
theorem ml_X2_79 : Cond.methodLink RX2 79 yX3_reckon ∈ TB := TBm_5 131 rfl rfl
theorem im_X2_agreesWithRow : Cond.instanceMethod yX2_agreesWithRow ∈ TB := TBm_5 134 rfl rfl
theorem ml_X2_85 : Cond.methodLink RX2 85 yX2_agreesWithRow ∈ TB := TBm_5 132 rfl rfl
theorem im_X2_worthKnown : Cond.instanceMethod yX2_worthKnown ∈ TB := TBm_2 121 rfl rfl
theorem ml_X2_25 : Cond.methodLink RX2 25 yX2_worthKnown ∈ TB := TBm_2 119 rfl rfl
theorem fl_X2_40 : FG RX2 40 2 1 .int false := ⟨RX0, TX0, 6, tyX0, rfl, by decide, uw_X0, TBm_1 89 rfl rfl, tyX0_ok, nmX0, rfl, rfl⟩
theorem im_X2_sumOfLegs : Cond.instanceMethod yX2_sumOfLegs ∈ TB := TBm_2 134 rfl rfl
theorem ml_X2_48 : Cond.methodLink RX2 48 yX2_sumOfLegs ∈ TB := TBm_2 132 rfl rfl
theorem im_X2_keep : Cond.instanceMethod yX2_keep ∈ TB := TBm_2 137 rfl rfl
theorem se_X2_keep : Cond.selects yX2_keep.cls yX2_keep yX2_keep ∈ TB := TBm_2 138 rfl rfl
theorem ml_X2_51 : Cond.methodLink RX2 51 yX2_keep ∈ TB := TBm_2 136 rfl rfl
theorem fl_X2_55 : FG RX2 55 2 2 .int false := ⟨RX0, TX0, 6, tyX0, rfl, by decide, uw_X0, TBm_1 91 rfl rfl, tyX0_ok, nmX0, rfl, rfl⟩
theorem fl_X2_45 : FG RX2 45 2 3 .int false := ⟨RX0, TX0, 6, tyX0, rfl, by decide, uw_X0, TBm_1 95 rfl rfl, tyX0_ok, nmX0, rfl, rfl⟩
theorem st_X5_restingWorth : Cond.static yX5_restingWorth ∈ TB := TBm_2 127 rfl rfl
theorem mn_X2_33 : Cond.methodLinkNest RX2 33 yX5_restingWorth "Sumlarder" ∈ NGW := NGm_2 126 rfl rfl
theorem w_oi : Cond.instanceMethod objectInit ∈ TB ∧ Cond.code objectInit ⟨#[0xb1]⟩ 1 none ∈ TB := ⟨TBm_1 32 rfl rfl, TBm_1 33 rfl rfl⟩
theorem ml_X0_1 : Cond.methodLink RX0 1 objectInit ∈ TB := TBm_1 86 rfl rfl
theorem ml_X4_3 : Cond.methodLink RX4 3 objectInit ∈ TB := TBm_1 76 rfl rfl
theorem ac_int : Cond.arrayClass .int ∈ TB := TBm_1 51 rfl rfl
theorem ml_X3_3 : Cond.methodLink RX3 3 objectInit ∈ TB := TBm_1 117 rfl rfl
theorem ml_X2_5 : Cond.methodLink RX2 5 objectInit ∈ TB := TBm_1 40 rfl rfl
theorem ml_X1_3 : Cond.methodLink RX1 3 objectInit ∈ TB := TBm_1 58 rfl rfl
theorem ml_X5_1 : Cond.methodLink RX5 1 objectInit ∈ TB := TBm_1 31 rfl rfl
theorem cl_X5_9 : Cond.classLink RX5 9 "Sumlarder$Memory" ∈ TB := TBm_1 34 rfl rfl
theorem fl_X5_11 : FG RX5 11 7 0 (.array (.object "Sumlarder$Memory")) true := ⟨RX5, TX5, 7, tyX5, rfl, by decide, uw_X5, TBm_1 122 rfl rfl, tyX5_ok, nmX5, rfl, rfl⟩
theorem nw_X5_9 : NW RX5 9 4 2 [.null, .int (0 : Int32)] := ⟨RX2, TX2, tyX2, rfl, uw_X2, tyX2_ok, TBm_1 34 rfl rfl, TBm_1 36 rfl rfl, TBm_1 2 rfl rfl, fun j hj => by (have : j = 0 ∨ j = 1 := by omega); rcases this with rfl | rfl <;> rfl⟩
theorem im_X2_init : Cond.instanceMethod yX2_init ∈ TB := TBm_1 38 rfl rfl
theorem ml_X5_15 : Cond.methodLink RX5 15 yX2_init ∈ TB := TBm_1 37 rfl rfl
theorem cl_X5_16 : Cond.classLink RX5 16 "Sumlarder$Ledger" ∈ TB := TBm_1 52 rfl rfl
theorem fl_X5_18 : FG RX5 18 7 1 (.array (.object "Sumlarder$Ledger")) true := ⟨RX5, TX5, 7, tyX5, rfl, by decide, uw_X5, TBm_1 123 rfl rfl, tyX5_ok, nmX5, rfl, rfl⟩
theorem nw_X5_16 : NW RX5 16 3 3 [.int (0 : Int32), .null, .int (0 : Int32)] := ⟨RX1, TX1, tyX1, rfl, uw_X1, tyX1_ok, TBm_1 52 rfl rfl, TBm_1 54 rfl rfl, TBm_1 4 rfl rfl, fun j hj => by (have : j = 0 ∨ j = 1 ∨ j = 2 := by omega); rcases this with rfl | rfl | rfl <;> rfl⟩
theorem im_X1_init : Cond.instanceMethod yX1_init ∈ TB := TBm_1 56 rfl rfl
theorem ml_X5_22 : Cond.methodLink RX5 22 yX1_init ∈ TB := TBm_1 55 rfl rfl
theorem cl_X5_25 : Cond.classLink RX5 25 "Sumlarder$Way" ∈ TB := TBm_1 70 rfl rfl
theorem fl_X5_27 : FG RX5 27 7 2 (.array (.object "Sumlarder$Way")) true := ⟨RX5, TX5, 7, tyX5, rfl, by decide, uw_X5, TBm_1 124 rfl rfl, tyX5_ok, nmX5, rfl, rfl⟩
theorem nw_X5_25 : NW RX5 25 6 1 [.null] := ⟨RX4, TX4, tyX4, rfl, uw_X4, tyX4_ok, TBm_1 70 rfl rfl, TBm_1 72 rfl rfl, TBm_1 5 rfl rfl, fun j hj => by (have : j = 0 := by omega); rcases this with rfl <;> rfl⟩
theorem im_X4_init : Cond.instanceMethod yX4_init ∈ TB := TBm_1 74 rfl rfl
theorem mn_X5_31 : Cond.methodLinkNest RX5 31 yX4_init "Sumlarder" ∈ NGW := NGm_1 73 rfl rfl
theorem nw_X5_32 : NW RX5 32 2 6 [.int (0 : Int32), .int (0 : Int32), .int (0 : Int32), .int (0 : Int32), .int (0 : Int32), .int (0 : Int32)] := ⟨RX0, TX0, tyX0, rfl, uw_X0, tyX0_ok, TBm_1 81 rfl rfl, TBm_1 82 rfl rfl, TBm_1 6 rfl rfl, fun j hj => by (have : j = 0 ∨ j = 1 ∨ j = 2 ∨ j = 3 ∨ j = 4 ∨ j = 5 := by omega); rcases this with rfl | rfl | rfl | rfl | rfl | rfl <;> rfl⟩
theorem im_X0_init : Cond.instanceMethod yX0_init ∈ TB := TBm_1 84 rfl rfl
theorem mn_X5_34 : Cond.methodLinkNest RX5 34 yX0_init "Sumlarder" ∈ NGW := NGm_1 83 rfl rfl
theorem fl_X5_35 : FG RX5 35 7 3 (.object "Sumlarder$Counts") true := ⟨RX5, TX5, 7, tyX5, rfl, by decide, uw_X5, TBm_1 125 rfl rfl, tyX5_ok, nmX5, rfl, rfl⟩
theorem nw_X5_39 : NW RX5 39 5 1 [.null] := ⟨RX3, TX3, tyX3, rfl, uw_X3, tyX3_ok, TBm_1 112 rfl rfl, TBm_1 113 rfl rfl, TBm_1 7 rfl rfl, fun j hj => by (have : j = 0 := by omega); rcases this with rfl <;> rfl⟩
theorem im_X3_init : Cond.instanceMethod yX3_init ∈ TB := TBm_1 115 rfl rfl
theorem mn_X5_41 : Cond.methodLinkNest RX5 41 yX3_init "Sumlarder" ∈ NGW := NGm_1 114 rfl rfl
theorem fl_X5_42 : FG RX5 42 7 4 (.object "Sumlarder$Series") true := ⟨RX5, TX5, 7, tyX5, rfl, by decide, uw_X5, TBm_1 126 rfl rfl, tyX5_ok, nmX5, rfl, rfl⟩
theorem fl_X5_46 : FG RX5 46 7 5 (.object "Sumlarder$Way") true := ⟨RX5, TX5, 7, tyX5, rfl, by decide, uw_X5, TBm_1 127 rfl rfl, tyX5_ok, nmX5, rfl, rfl⟩
theorem fl_X5_50 : FG RX5 50 7 6 (.object "Sumlarder$Way") true := ⟨RX5, TX5, 7, tyX5, rfl, by decide, uw_X5, TBm_1 128 rfl rfl, tyX5_ok, nmX5, rfl, rfl⟩
theorem cl_X5_256 : Cond.classLink RX5 256 "java/lang/IndexOutOfBoundsException" ∈ TB := TBm_1 152 rfl rfl
theorem in_IndexOutOfBoundsException : Cond.initialized "java/lang/IndexOutOfBoundsException" ∈ TB := TBm_1 13 rfl rfl
theorem cl_X5_267 : Cond.classLink RX5 267 "java/lang/IllegalArgumentException" ∈ TB := TBm_2 5 rfl rfl
theorem in_IllegalArgumentException : Cond.initialized "java/lang/IllegalArgumentException" ∈ TB := TBm_1 14 rfl rfl
theorem st_X5_checkRange : Cond.static yX5_checkRange ∈ TB := TBm_2 3 rfl rfl
theorem ml_X5_69 : Cond.methodLink RX5 69 yX5_checkRange ∈ TB := TBm_2 2 rfl rfl
theorem fl_X5_212 : FG RX5 212 2 0 .int false := ⟨RX0, TX0, 6, tyX0, rfl, by decide, uw_X0, TBm_1 87 rfl rfl, tyX0_ok, nmX0, rfl, rfl⟩
theorem fl_X5_225 : FG RX5 225 2 4 .int false := ⟨RX0, TX0, 6, tyX0, rfl, by decide, uw_X0, TBm_1 97 rfl rfl, tyX0_ok, nmX0, rfl, rfl⟩
theorem im_X4_becomeFirst : Cond.instanceMethod yX4_becomeFirst ∈ TB := TBm_2 219 rfl rfl
theorem se_X4_becomeFirst : Cond.selects yX4_becomeFirst.cls yX4_becomeFirst yX4_becomeFirst ∈ TB := TBm_2 220 rfl rfl
theorem ml_X5_170 : Cond.methodLink RX5 170 yX4_becomeFirst ∈ TB := TBm_2 218 rfl rfl
theorem co_X5_272 : Cond.constant RX5 272 (1000000) ∈ TB := TBm_2 231 rfl rfl
theorem im_X4_isOfKind : Cond.instanceMethod yX4_isOfKind ∈ TB := TBm_2 233 rfl rfl
theorem se_X4_isOfKind : Cond.selects yX4_isOfKind.cls yX4_isOfKind yX4_isOfKind ∈ TB := TBm_2 234 rfl rfl
theorem ml_X5_208 : Cond.methodLink RX5 208 yX4_isOfKind ∈ TB := TBm_2 232 rfl rfl
theorem im_X4_stepOn : Cond.instanceMethod yX4_stepOn ∈ TB := TBm_3 19 rfl rfl
theorem se_X4_stepOn : Cond.selects yX4_stepOn.cls yX4_stepOn yX4_stepOn ∈ TB := TBm_3 20 rfl rfl
theorem ml_X5_176 : Cond.methodLink RX5 176 yX4_stepOn ∈ TB := TBm_3 18 rfl rfl
theorem im_X5_memoryAt : Cond.instanceMethod yX5_memoryAt ∈ TB := TBm_1 239 rfl rfl
theorem ml_X5_53 : Cond.methodLink RX5 53 yX5_memoryAt ∈ TB := TBm_1 237 rfl rfl
theorem st_X5_checkCase : Cond.static yX5_checkCase ∈ TB := TBm_2 113 rfl rfl
theorem ml_X5_57 : Cond.methodLink RX5 57 yX5_checkCase ∈ TB := TBm_2 112 rfl rfl
theorem im_X2_recall : Cond.instanceMethod yX2_recall ∈ TB := TBm_2 116 rfl rfl
theorem se_X2_recall : Cond.selects yX2_recall.cls yX2_recall yX2_recall ∈ TB := TBm_2 117 rfl rfl
theorem ml_X5_61 : Cond.methodLink RX5 61 yX2_recall ∈ TB := TBm_2 115 rfl rfl
theorem im_X5_acted : Cond.instanceMethod yX5_acted ∈ TB := TBm_2 142 rfl rfl
theorem ml_X5_65 : Cond.methodLink RX5 65 yX5_acted ∈ TB := TBm_2 140 rfl rfl
theorem im_X5_deskAt : Cond.instanceMethod yX5_deskAt ∈ TB := TBm_1 150 rfl rfl
theorem ml_X5_72 : Cond.methodLink RX5 72 yX5_deskAt ∈ TB := TBm_1 148 rfl rfl
theorem im_X4_sum : Cond.instanceMethod yX4_sum ∈ TB := TBm_2 67 rfl rfl
theorem se_X4_sum : Cond.selects yX4_sum.cls yX4_sum yX4_sum ∈ TB := TBm_2 68 rfl rfl
theorem ml_X5_76 : Cond.methodLink RX5 76 yX4_sum ∈ TB := TBm_2 66 rfl rfl
theorem im_X4_timesOf : Cond.instanceMethod yX4_timesOf ∈ TB := TBm_2 83 rfl rfl
theorem se_X4_timesOf : Cond.selects yX4_timesOf.cls yX4_timesOf yX4_timesOf ∈ TB := TBm_2 84 rfl rfl
theorem ml_X5_80 : Cond.methodLink RX5 80 yX4_timesOf ∈ TB := TBm_2 82 rfl rfl
theorem ml_X5_83 : Cond.methodLink RX5 83 yX5_rests ∈ TB := TBm_2 172 rfl rfl
theorem ml_X5_90 : Cond.methodLink RX5 90 yX2_keeps ∈ TB := TBm_2 177 rfl rfl
theorem im_X3_tells : Cond.instanceMethod yX3_tells ∈ TB := TBm_2 186 rfl rfl
theorem se_X3_tells : Cond.selects yX3_tells.cls yX3_tells yX3_tells ∈ TB := TBm_2 187 rfl rfl
theorem ml_X5_94 : Cond.methodLink RX5 94 yX3_tells ∈ TB := TBm_2 185 rfl rfl
theorem ml_X5_98 : Cond.methodLink RX5 98 yX2_keep ∈ TB := TBm_2 206 rfl rfl
theorem im_X5_undone : Cond.instanceMethod yX5_undone ∈ TB := TBm_2 175 rfl rfl
theorem ml_X5_87 : Cond.methodLink RX5 87 yX5_undone ∈ TB := TBm_2 173 rfl rfl
theorem im_X5_waysOneByOne : Cond.instanceMethod yX5_waysOneByOne ∈ TB := TBm_2 216 rfl rfl
theorem ml_X5_102 : Cond.methodLink RX5 102 yX5_waysOneByOne ∈ TB := TBm_2 214 rfl rfl
theorem ml_X5_105 : Cond.methodLink RX5 105 yX2_keptWorth ∈ TB := TBm_3 33 rfl rfl
theorem im_X2_drop : Cond.instanceMethod yX2_drop ∈ TB := TBm_3 35 rfl rfl
theorem se_X2_drop : Cond.selects yX2_drop.cls yX2_drop yX2_drop ∈ TB := TBm_3 36 rfl rfl
theorem ml_X5_108 : Cond.methodLink RX5 108 yX2_drop ∈ TB := TBm_3 34 rfl rfl
theorem im_X2_keepsWith : Cond.instanceMethod yX2_keepsWith ∈ TB := TBm_3 46 rfl rfl
theorem se_X2_keepsWith : Cond.selects yX2_keepsWith.cls yX2_keepsWith yX2_keepsWith ∈ TB := TBm_3 47 rfl rfl
theorem ml_X5_111 : Cond.methodLink RX5 111 yX2_keepsWith ∈ TB := TBm_3 45 rfl rfl
theorem im_X2_dropEach : Cond.instanceMethod yX2_dropEach ∈ TB := TBm_3 58 rfl rfl
theorem se_X2_dropEach : Cond.selects yX2_dropEach.cls yX2_dropEach yX2_dropEach ∈ TB := TBm_3 59 rfl rfl
theorem ml_X5_115 : Cond.methodLink RX5 115 yX2_dropEach ∈ TB := TBm_3 57 rfl rfl
theorem im_X2_dropAll : Cond.instanceMethod yX2_dropAll ∈ TB := TBm_3 73 rfl rfl
theorem se_X2_dropAll : Cond.selects yX2_dropAll.cls yX2_dropAll yX2_dropAll ∈ TB := TBm_3 74 rfl rfl
theorem ml_X5_119 : Cond.methodLink RX5 119 yX2_dropAll ∈ TB := TBm_3 72 rfl rfl
theorem im_X2_become : Cond.instanceMethod yX2_become ∈ TB := TBm_3 84 rfl rfl
theorem se_X2_become : Cond.selects yX2_become.cls yX2_become yX2_become ∈ TB := TBm_3 85 rfl rfl
theorem ml_X5_122 : Cond.methodLink RX5 122 yX2_become ∈ TB := TBm_3 83 rfl rfl
theorem im_X2_size : Cond.instanceMethod yX2_size ∈ TB := TBm_2 22 rfl rfl
theorem se_X2_size : Cond.selects yX2_size.cls yX2_size yX2_size ∈ TB := TBm_2 23 rfl rfl
theorem ml_X5_126 : Cond.methodLink RX5 126 yX2_size ∈ TB := TBm_2 21 rfl rfl
theorem im_X2_takeIn : Cond.instanceMethod yX2_takeIn ∈ TB := TBm_3 98 rfl rfl
theorem se_X2_takeIn : Cond.selects yX2_takeIn.cls yX2_takeIn yX2_takeIn ∈ TB := TBm_3 99 rfl rfl
theorem ml_X5_129 : Cond.methodLink RX5 129 yX2_takeIn ∈ TB := TBm_3 97 rfl rfl
theorem im_X2_mark : Cond.instanceMethod yX2_mark ∈ TB := TBm_2 26 rfl rfl
theorem se_X2_mark : Cond.selects yX2_mark.cls yX2_mark yX2_mark ∈ TB := TBm_2 27 rfl rfl
theorem ml_X5_133 : Cond.methodLink RX5 133 yX2_mark ∈ TB := TBm_2 25 rfl rfl
theorem im_X2_sumOfWorths : Cond.instanceMethod yX2_sumOfWorths ∈ TB := TBm_2 42 rfl rfl
theorem se_X2_sumOfWorths : Cond.selects yX2_sumOfWorths.cls yX2_sumOfWorths yX2_sumOfWorths ∈ TB := TBm_2 43 rfl rfl
theorem ml_X5_136 : Cond.methodLink RX5 136 yX2_sumOfWorths ∈ TB := TBm_2 41 rfl rfl
theorem im_X2_howMany : Cond.instanceMethod yX2_howMany ∈ TB := TBm_3 134 rfl rfl
theorem se_X2_howMany : Cond.selects yX2_howMany.cls yX2_howMany yX2_howMany ∈ TB := TBm_3 135 rfl rfl
theorem ml_X5_139 : Cond.methodLink RX5 139 yX2_howMany ∈ TB := TBm_3 133 rfl rfl
theorem im_X2_isLike : Cond.instanceMethod yX2_isLike ∈ TB := TBm_3 152 rfl rfl
theorem se_X2_isLike : Cond.selects yX2_isLike.cls yX2_isLike yX2_isLike ∈ TB := TBm_3 153 rfl rfl
theorem ml_X5_142 : Cond.methodLink RX5 142 yX2_isLike ∈ TB := TBm_3 151 rfl rfl
theorem st_X5_checkAnyCase : Cond.static yX5_checkAnyCase ∈ TB := TBm_3 163 rfl rfl
theorem ml_X5_146 : Cond.methodLink RX5 146 yX5_checkAnyCase ∈ TB := TBm_3 162 rfl rfl
theorem im_X5_ledgerAt : Cond.instanceMethod yX5_ledgerAt ∈ TB := TBm_2 51 rfl rfl
theorem ml_X5_149 : Cond.methodLink RX5 149 yX5_ledgerAt ∈ TB := TBm_2 49 rfl rfl
theorem im_X1_recall : Cond.instanceMethod yX1_recall ∈ TB := TBm_3 180 rfl rfl
theorem se_X1_recall : Cond.selects yX1_recall.cls yX1_recall yX1_recall ∈ TB := TBm_3 181 rfl rfl
theorem ml_X5_153 : Cond.methodLink RX5 153 yX1_recall ∈ TB := TBm_3 179 rfl rfl
theorem im_X1_keeps : Cond.instanceMethod yX1_keeps ∈ TB := TBm_3 211 rfl rfl
theorem se_X1_keeps : Cond.selects yX1_keeps.cls yX1_keeps yX1_keeps ∈ TB := TBm_3 212 rfl rfl
theorem ml_X5_157 : Cond.methodLink RX5 157 yX1_keeps ∈ TB := TBm_3 210 rfl rfl
theorem ml_X5_160 : Cond.methodLink RX5 160 yX1_keptWorth ∈ TB := TBm_3 218 rfl rfl
theorem im_X1_drop : Cond.instanceMethod yX1_drop ∈ TB := TBm_3 220 rfl rfl
theorem se_X1_drop : Cond.selects yX1_drop.cls yX1_drop yX1_drop ∈ TB := TBm_3 221 rfl rfl
theorem ml_X5_162 : Cond.methodLink RX5 162 yX1_drop ∈ TB := TBm_3 219 rfl rfl
theorem im_X1_dropAll : Cond.instanceMethod yX1_dropAll ∈ TB := TBm_3 207 rfl rfl
theorem se_X1_dropAll : Cond.selects yX1_dropAll.cls yX1_dropAll yX1_dropAll ∈ TB := TBm_3 208 rfl rfl
theorem ml_X5_156 : Cond.methodLink RX5 156 yX1_dropAll ∈ TB := TBm_3 206 rfl rfl
theorem im_X1_mark : Cond.instanceMethod yX1_mark ∈ TB := TBm_2 59 rfl rfl
theorem se_X1_mark : Cond.selects yX1_mark.cls yX1_mark yX1_mark ∈ TB := TBm_2 60 rfl rfl
theorem ml_X5_165 : Cond.methodLink RX5 165 yX1_mark ∈ TB := TBm_2 58 rfl rfl
theorem im_X1_size : Cond.instanceMethod yX1_size ∈ TB := TBm_2 55 rfl rfl
theorem se_X1_size : Cond.selects yX1_size.cls yX1_size yX1_size ∈ TB := TBm_2 56 rfl rfl
theorem ml_X5_164 : Cond.methodLink RX5 164 yX1_size ∈ TB := TBm_2 54 rfl rfl
theorem ml_X5_166 : Cond.methodLink RX5 166 yX4_put ∈ TB := TBm_4 1 rfl rfl
theorem ml_X5_173 : Cond.methodLink RX5 173 yX4_parts ∈ TB := TBm_2 70 rfl rfl
theorem ml_X5_180 : Cond.methodLink RX5 180 yX4_becomeTurned ∈ TB := TBm_4 30 rfl rfl
theorem ml_X5_184 : Cond.methodLink RX5 184 yX4_isLike ∈ TB := TBm_1 219 rfl rfl
theorem im_X4_become : Cond.instanceMethod yX4_become ∈ TB := TBm_4 32 rfl rfl
theorem se_X4_become : Cond.selects yX4_become.cls yX4_become yX4_become ∈ TB := TBm_4 33 rfl rfl
theorem ml_X5_187 : Cond.methodLink RX5 187 yX4_become ∈ TB := TBm_4 31 rfl rfl
theorem ml_X5_189 : Cond.methodLink RX5 189 yX4_isOdd ∈ TB := TBm_4 43 rfl rfl
theorem im_X4_becomeUnlike : Cond.instanceMethod yX4_becomeUnlike ∈ TB := TBm_4 45 rfl rfl
theorem se_X4_becomeUnlike : Cond.selects yX4_becomeUnlike.cls yX4_becomeUnlike yX4_becomeUnlike ∈ TB := TBm_4 46 rfl rfl
theorem ml_X5_192 : Cond.methodLink RX5 192 yX4_becomeUnlike ∈ TB := TBm_4 44 rfl rfl
theorem ml_X5_195 : Cond.methodLink RX5 195 yX4_isUnlike ∈ TB := TBm_4 55 rfl rfl
theorem im_X4_becomeOdd : Cond.instanceMethod yX4_becomeOdd ∈ TB := TBm_4 57 rfl rfl
theorem se_X4_becomeOdd : Cond.selects yX4_becomeOdd.cls yX4_becomeOdd yX4_becomeOdd ∈ TB := TBm_4 58 rfl rfl
theorem ml_X5_198 : Cond.methodLink RX5 198 yX4_becomeOdd ∈ TB := TBm_4 56 rfl rfl
theorem im_X4_differentParts : Cond.instanceMethod yX4_differentParts ∈ TB := TBm_2 75 rfl rfl
theorem se_X4_differentParts : Cond.selects yX4_differentParts.cls yX4_differentParts yX4_differentParts ∈ TB := TBm_2 76 rfl rfl
theorem ml_X5_201 : Cond.methodLink RX5 201 yX4_differentParts ∈ TB := TBm_2 74 rfl rfl
theorem fl_X5_216 : FG RX5 216 2 1 .int false := ⟨RX0, TX0, 6, tyX0, rfl, by decide, uw_X0, TBm_1 90 rfl rfl, tyX0_ok, nmX0, rfl, rfl⟩
theorem fl_X5_219 : FG RX5 219 2 2 .int false := ⟨RX0, TX0, 6, tyX0, rfl, by decide, uw_X0, TBm_1 93 rfl rfl, tyX0_ok, nmX0, rfl, rfl⟩
theorem fl_X5_222 : FG RX5 222 2 3 .int false := ⟨RX0, TX0, 6, tyX0, rfl, by decide, uw_X0, TBm_1 96 rfl rfl, tyX0_ok, nmX0, rfl, rfl⟩
theorem fl_X5_227 : FG RX5 227 2 5 .int false := ⟨RX0, TX0, 6, tyX0, rfl, by decide, uw_X0, TBm_1 98 rfl rfl, tyX0_ok, nmX0, rfl, rfl⟩
theorem im_X2_agreesWith : Cond.instanceMethod yX2_agreesWith ∈ TB := TBm_5 128 rfl rfl
theorem se_X2_agreesWith : Cond.selects yX2_agreesWith.cls yX2_agreesWith yX2_agreesWith ∈ TB := TBm_5 129 rfl rfl
theorem ml_X5_230 : Cond.methodLink RX5 230 yX2_agreesWith ∈ TB := TBm_5 127 rfl rfl
theorem im_X2_isWellCounted : Cond.instanceMethod yX2_isWellCounted ∈ TB := TBm_5 138 rfl rfl
theorem se_X2_isWellCounted : Cond.selects yX2_isWellCounted.cls yX2_isWellCounted yX2_isWellCounted ∈ TB := TBm_5 139 rfl rfl
theorem ml_X5_234 : Cond.methodLink RX5 234 yX2_isWellCounted ∈ TB := TBm_5 137 rfl rfl
theorem co_X5_237 : Cond.constantLong RX5 237 (7978) ∈ TB := TBm_1 231 rfl rfl
theorem co_X5_239 : Cond.constantLong RX5 239 (31) ∈ TB := TBm_1 232 rfl rfl
theorem im_X5_about : Cond.instanceMethod yX5_about ∈ TB := TBm_1 234 rfl rfl
theorem se_X5_about : Cond.selects yX5_about.cls yX5_about yX5_about ∈ TB := TBm_1 235 rfl rfl
theorem ml_X5_241 : Cond.methodLink RX5 241 yX5_about ∈ TB := TBm_1 233 rfl rfl
theorem im_X5_ledger : Cond.instanceMethod yX5_ledger ∈ TB := TBm_2 46 rfl rfl
theorem se_X5_ledger : Cond.selects yX5_ledger.cls yX5_ledger yX5_ledger ∈ TB := TBm_2 47 rfl rfl
theorem ml_X5_244 : Cond.methodLink RX5 244 yX5_ledger ∈ TB := TBm_2 45 rfl rfl
theorem im_X5_way : Cond.instanceMethod yX5_way ∈ TB := TBm_2 63 rfl rfl
theorem se_X5_way : Cond.selects yX5_way.cls yX5_way yX5_way ∈ TB := TBm_2 64 rfl rfl
theorem ml_X5_247 : Cond.methodLink RX5 247 yX5_way ∈ TB := TBm_2 62 rfl rfl
theorem im_X5_times : Cond.instanceMethod yX5_times ∈ TB := TBm_2 79 rfl rfl
theorem se_X5_times : Cond.selects yX5_times.cls yX5_times yX5_times ∈ TB := TBm_2 80 rfl rfl
theorem ml_X5_250 : Cond.methodLink RX5 250 yX5_times ∈ TB := TBm_2 78 rfl rfl
theorem im_X5_tally : Cond.instanceMethod yX5_tally ∈ TB := TBm_2 87 rfl rfl
theorem se_X5_tally : Cond.selects yX5_tally.cls yX5_tally yX5_tally ∈ TB := TBm_2 88 rfl rfl
theorem ml_X5_253 : Cond.methodLink RX5 253 yX5_tally ∈ TB := TBm_2 86 rfl rfl
theorem ml_X7_3 : Cond.methodLink RX7 3 objectInit ∈ TB := TBm_5 146 rfl rfl
theorem cl_X7_9 : Cond.classLink RX7 9 "[[I" ∈ TB := TBm_5 147 rfl rfl
theorem fl_X7_11 : FG RX7 11 9 0 (.array (.array .int)) true := ⟨RX7, TX7, 6, tyX7, rfl, by decide, uw_X7, TBm_5 149 rfl rfl, tyX7_ok, nmX7, rfl, rfl⟩
theorem fl_X7_14 : FG RX7 14 9 1 (.array (.array .int)) true := ⟨RX7, TX7, 6, tyX7, rfl, by decide, uw_X7, TBm_5 150 rfl rfl, tyX7_ok, nmX7, rfl, rfl⟩
theorem fl_X7_17 : FG RX7 17 9 2 (.array (.array .int)) true := ⟨RX7, TX7, 6, tyX7, rfl, by decide, uw_X7, TBm_5 151 rfl rfl, tyX7_ok, nmX7, rfl, rfl⟩
theorem fl_X7_20 : FG RX7 20 9 3 (.array .int) true := ⟨RX7, TX7, 6, tyX7, rfl, by decide, uw_X7, TBm_5 152 rfl rfl, tyX7_ok, nmX7, rfl, rfl⟩
theorem fl_X7_24 : FG RX7 24 9 4 (.array .int) true := ⟨RX7, TX7, 6, tyX7, rfl, by decide, uw_X7, TBm_5 153 rfl rfl, tyX7_ok, nmX7, rfl, rfl⟩
theorem st_X7_isNo : Cond.static yX7_isNo ∈ TB := TBm_5 177 rfl rfl
theorem ml_X7_31 : Cond.methodLink RX7 31 yX7_isNo ∈ TB := TBm_5 176 rfl rfl
theorem fl_X7_27 : FG RX7 27 9 5 .int false := ⟨RX7, TX7, 6, tyX7, rfl, by decide, uw_X7, TBm_5 154 rfl rfl, tyX7_ok, nmX7, rfl, rfl⟩
theorem st_X7_rests : Cond.static yX7_rests ∈ TB := TBm_5 191 rfl rfl
theorem ml_X7_35 : Cond.methodLink RX7 35 yX7_rests ∈ TB := TBm_5 190 rfl rfl
theorem st_X7_bit : Cond.static yX7_bit ∈ TB := TBm_5 201 rfl rfl
theorem ml_X7_43 : Cond.methodLink RX7 43 yX7_bit ∈ TB := TBm_5 200 rfl rfl
theorem st_X7_code : Cond.static yX7_code ∈ TB := TBm_5 198 rfl rfl
theorem ml_X7_39 : Cond.methodLink RX7 39 yX7_code ∈ TB := TBm_5 197 rfl rfl
theorem im_X7_worth : Cond.instanceMethod yX7_worth ∈ TB := TBm_5 195 rfl rfl
theorem ml_X7_47 : Cond.methodLink RX7 47 yX7_worth ∈ TB := TBm_5 193 rfl rfl
theorem st_X7_hasLeg : Cond.static yX7_hasLeg ∈ TB := TBm_5 210 rfl rfl
theorem ml_X7_57 : Cond.methodLink RX7 57 yX7_hasLeg ∈ TB := TBm_5 209 rfl rfl
theorem st_X7_legNumber : Cond.static yX7_legNumber ∈ TB := TBm_5 204 rfl rfl
theorem ml_X7_51 : Cond.methodLink RX7 51 yX7_legNumber ∈ TB := TBm_5 203 rfl rfl
theorem st_X7_legMeasure : Cond.static yX7_legMeasure ∈ TB := TBm_5 207 rfl rfl
theorem ml_X7_54 : Cond.methodLink RX7 54 yX7_legMeasure ∈ TB := TBm_5 206 rfl rfl
theorem im_X7_keep : Cond.instanceMethod yX7_keep ∈ TB := TBm_5 214 rfl rfl
theorem ml_X7_60 : Cond.methodLink RX7 60 yX7_keep ∈ TB := TBm_5 212 rfl rfl
theorem st_X7_row : Cond.static yX7_row ∈ TB := TBm_6 7 rfl rfl
theorem ml_X7_64 : Cond.methodLink RX7 64 yX7_row ∈ TB := TBm_6 6 rfl rfl
theorem st_X7_told : Cond.static yX7_told ∈ TB := TBm_6 10 rfl rfl
theorem ml_X7_68 : Cond.methodLink RX7 68 yX7_told ∈ TB := TBm_6 9 rfl rfl
theorem st_X7_parts : Cond.static yX7_parts ∈ TB := TBm_6 33 rfl rfl
theorem ml_X7_72 : Cond.methodLink RX7 72 yX7_parts ∈ TB := TBm_6 32 rfl rfl
theorem st_X7_unlikeOnes : Cond.static yX7_unlikeOnes ∈ TB := TBm_6 39 rfl rfl
theorem ml_X7_76 : Cond.methodLink RX7 76 yX7_unlikeOnes ∈ TB := TBm_6 38 rfl rfl
theorem st_X7_greatest : Cond.static yX7_greatest ∈ TB := TBm_6 30 rfl rfl
theorem ml_X7_79 : Cond.methodLink RX7 79 yX7_greatest ∈ TB := TBm_6 29 rfl rfl
theorem st_X7_partAt : Cond.static yX7_partAt ∈ TB := TBm_6 48 rfl rfl
theorem ml_X7_82 : Cond.methodLink RX7 82 yX7_partAt ∈ TB := TBm_6 47 rfl rfl
theorem st_X7_isUnlike : Cond.static yX7_isUnlike ∈ TB := TBm_6 36 rfl rfl
theorem ml_X7_86 : Cond.methodLink RX7 86 yX7_isUnlike ∈ TB := TBm_6 35 rfl rfl
theorem st_X7_isOdd : Cond.static yX7_isOdd ∈ TB := TBm_6 42 rfl rfl
theorem ml_X7_90 : Cond.methodLink RX7 90 yX7_isOdd ∈ TB := TBm_6 41 rfl rfl
theorem st_X7_isOwnTurned : Cond.static yX7_isOwnTurned ∈ TB := TBm_6 45 rfl rfl
theorem ml_X7_93 : Cond.methodLink RX7 93 yX7_isOwnTurned ∈ TB := TBm_6 44 rfl rfl
theorem st_X7_firstWay : Cond.static yX7_firstWay ∈ TB := TBm_6 24 rfl rfl
theorem ml_X7_96 : Cond.methodLink RX7 96 yX7_firstWay ∈ TB := TBm_6 23 rfl rfl
theorem st_X7_isOfKind : Cond.static yX7_isOfKind ∈ TB := TBm_6 27 rfl rfl
theorem ml_X7_100 : Cond.methodLink RX7 100 yX7_isOfKind ∈ TB := TBm_6 26 rfl rfl
theorem st_X7_isNext : Cond.static yX7_isNext ∈ TB := TBm_6 51 rfl rfl
theorem ml_X7_104 : Cond.methodLink RX7 104 yX7_isNext ∈ TB := TBm_6 50 rfl rfl
theorem st_X7_isOut : Cond.static yX7_isOut ∈ TB := TBm_5 180 rfl rfl
theorem ml_X7_107 : Cond.methodLink RX7 107 yX7_isOut ∈ TB := TBm_5 179 rfl rfl
theorem im_X7_isThrown : Cond.instanceMethod yX7_isThrown ∈ TB := TBm_5 184 rfl rfl
theorem ml_X7_110 : Cond.methodLink RX7 110 yX7_isThrown ∈ TB := TBm_5 182 rfl rfl
theorem im_X7_known : Cond.instanceMethod yX7_known ∈ TB := TBm_5 188 rfl rfl
theorem ml_X7_114 : Cond.methodLink RX7 114 yX7_known ∈ TB := TBm_5 186 rfl rfl
theorem im_X7_done : Cond.instanceMethod yX7_done ∈ TB := TBm_5 218 rfl rfl
theorem ml_X7_117 : Cond.methodLink RX7 117 yX7_done ∈ TB := TBm_5 216 rfl rfl
theorem st_X7_number : Cond.static yX7_number ∈ TB := TBm_5 233 rfl rfl
theorem ml_X7_121 : Cond.methodLink RX7 121 yX7_number ∈ TB := TBm_5 232 rfl rfl
theorem st_X7_series : Cond.static yX7_series ∈ TB := TBm_6 4 rfl rfl
theorem ml_X7_128 : Cond.methodLink RX7 128 yX7_series ∈ TB := TBm_6 3 rfl rfl
theorem im_X7_refused : Cond.instanceMethod yX7_refused ∈ TB := TBm_6 1 rfl rfl
theorem ml_X7_124 : Cond.methodLink RX7 124 yX7_refused ∈ TB := TBm_5 239 rfl rfl
theorem im_X7_kept : Cond.instanceMethod yX7_kept ∈ TB := TBm_6 18 rfl rfl
theorem ml_X7_131 : Cond.methodLink RX7 131 yX7_kept ∈ TB := TBm_6 16 rfl rfl
theorem st_X7_walked : Cond.static yX7_walked ∈ TB := TBm_6 21 rfl rfl
theorem ml_X7_134 : Cond.methodLink RX7 134 yX7_walked ∈ TB := TBm_6 20 rfl rfl
theorem st_X7_measureOf : Cond.static yX7_measureOf ∈ TB := TBm_6 80 rfl rfl
theorem ml_X7_143 : Cond.methodLink RX7 143 yX7_measureOf ∈ TB := TBm_6 79 rfl rfl
theorem st_X7_numberOf : Cond.static yX7_numberOf ∈ TB := TBm_6 77 rfl rfl
theorem ml_X7_140 : Cond.methodLink RX7 140 yX7_numberOf ∈ TB := TBm_6 76 rfl rfl
theorem st_X7_kindOf : Cond.static yX7_kindOf ∈ TB := TBm_6 74 rfl rfl
theorem ml_X7_137 : Cond.methodLink RX7 137 yX7_kindOf ∈ TB := TBm_6 73 rfl rfl
theorem im_X7_isSo : Cond.instanceMethod yX7_isSo ∈ TB := TBm_6 71 rfl rfl
theorem ml_X7_146 : Cond.methodLink RX7 146 yX7_isSo ∈ TB := TBm_6 69 rfl rfl
theorem im_X7_counted : Cond.instanceMethod yX7_counted ∈ TB := TBm_6 67 rfl rfl
theorem ml_X7_150 : Cond.methodLink RX7 150 yX7_counted ∈ TB := TBm_6 65 rfl rfl
theorem im_X7_told_ : Cond.instanceMethod yX7_told_ ∈ TB := TBm_6 88 rfl rfl
theorem ml_X7_153 : Cond.methodLink RX7 153 yX7_told_ ∈ TB := TBm_6 86 rfl rfl
theorem im_X7_ledgerWorth : Cond.instanceMethod yX7_ledgerWorth ∈ TB := TBm_6 143 rfl rfl
theorem ml_X7_159 : Cond.methodLink RX7 159 yX7_ledgerWorth ∈ TB := TBm_6 141 rfl rfl
theorem st_X7_factor : Cond.static yX7_factor ∈ TB := TBm_6 139 rfl rfl
theorem ml_X7_156 : Cond.methodLink RX7 156 yX7_factor ∈ TB := TBm_6 138 rfl rfl
theorem im_X7_ledgerTold : Cond.instanceMethod yX7_ledgerTold ∈ TB := TBm_6 151 rfl rfl
theorem ml_X7_162 : Cond.methodLink RX7 162 yX7_ledgerTold ∈ TB := TBm_6 149 rfl rfl
theorem im_X7_laid : Cond.instanceMethod yX7_laid ∈ TB := TBm_6 175 rfl rfl
theorem ml_X7_165 : Cond.methodLink RX7 165 yX7_laid ∈ TB := TBm_6 173 rfl rfl
theorem st_X7_turned : Cond.static yX7_turned ∈ TB := TBm_6 186 rfl rfl
theorem ml_X7_169 : Cond.methodLink RX7 169 yX7_turned ∈ TB := TBm_6 185 rfl rfl
theorem st_X7_areSame : Cond.static yX7_areSame ∈ TB := TBm_6 189 rfl rfl
theorem ml_X7_173 : Cond.methodLink RX7 173 yX7_areSame ∈ TB := TBm_6 188 rfl rfl
theorem co_X7_196 : Cond.constantLong RX7 196 (7978) ∈ TB := TBm_7 6 rfl rfl
theorem co_X7_198 : Cond.constantLong RX7 198 (31) ∈ TB := TBm_7 7 rfl rfl

end MG_03fwords
