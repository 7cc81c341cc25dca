theorem ini_0 : Cond.initialized "java/util/Arrays" ∈ TB := TBm_1 3 rfl rfl
theorem ne_0 : ("java/util/Arrays" : String) ≠ "java/lang/invoke/MethodHandle" ∧ ("java/util/Arrays" : String) ≠ "java/lang/invoke/VarHandle" := by decide +kernel
theorem pd_0 : (parseMethodDescriptor "([II)V").map (fun d => d.parameters.length) = some 2 := by decide +kernel
theorem ini_1 : Cond.initialized "Sumlarder$Way" ∈ TB := TBm_1 5 rfl rfl
theorem ne_1 : ("Sumlarder$Way" : String) ≠ "java/lang/invoke/MethodHandle" ∧ ("Sumlarder$Way" : String) ≠ "java/lang/invoke/VarHandle" := by decide +kernel
theorem pd_1 : (parseMethodDescriptor "()V").map (fun d => d.parameters.length) = some 0 := by decide +kernel
theorem pd_2 : (parseMethodDescriptor "(II)V").map (fun d => d.parameters.length) = some 2 := by decide +kernel
theorem pd_3 : (parseMethodDescriptor "(LSumlarder$Way;)V").map (fun d => d.parameters.length) = some 1 := by decide +kernel
theorem pd_4 : (parseMethodDescriptor "(LSumlarder$Way;)Z").map (fun d => d.parameters.length) = some 1 := by decide +kernel
theorem pd_5 : (parseMethodDescriptor "(I)Z").map (fun d => d.parameters.length) = some 1 := by decide +kernel
theorem pd_6 : (parseMethodDescriptor "()I").map (fun d => d.parameters.length) = some 0 := by decide +kernel
theorem pd_7 : (parseMethodDescriptor "()Z").map (fun d => d.parameters.length) = some 0 := by decide +kernel
theorem ini_2 : Cond.initialized "Sumlarder$Series" ∈ TB := TBm_1 7 rfl rfl
theorem ne_2 : ("Sumlarder$Series" : String) ≠ "java/lang/invoke/MethodHandle" ∧ ("Sumlarder$Series" : String) ≠ "java/lang/invoke/VarHandle" := by decide +kernel
theorem pd_8 : (parseMethodDescriptor "(I)V").map (fun d => d.parameters.length) = some 1 := by decide +kernel
theorem pd_9 : (parseMethodDescriptor "(III)I").map (fun d => d.parameters.length) = some 3 := by decide +kernel
theorem ini_3 : Cond.initialized "Sumlarder$Ledger" ∈ TB := TBm_1 4 rfl rfl
theorem ne_3 : ("Sumlarder$Ledger" : String) ≠ "java/lang/invoke/MethodHandle" ∧ ("Sumlarder$Ledger" : String) ≠ "java/lang/invoke/VarHandle" := by decide +kernel
theorem pd_10 : (parseMethodDescriptor "(I)I").map (fun d => d.parameters.length) = some 1 := by decide +kernel
theorem pd_11 : (parseMethodDescriptor "(ILSumlarder$Counts;I)I").map (fun d => d.parameters.length) = some 3 := by decide +kernel
theorem ini_4 : Cond.initialized "Sumlarder$Memory" ∈ TB := TBm_1 2 rfl rfl
theorem ne_4 : ("Sumlarder$Memory" : String) ≠ "java/lang/invoke/MethodHandle" ∧ ("Sumlarder$Memory" : String) ≠ "java/lang/invoke/VarHandle" := by decide +kernel
theorem pd_12 : (parseMethodDescriptor "(III)Z").map (fun d => d.parameters.length) = some 3 := by decide +kernel
theorem pd_13 : (parseMethodDescriptor "(II)I").map (fun d => d.parameters.length) = some 2 := by decide +kernel
theorem ini_5 : Cond.initialized "Sumlarder" ∈ TB := TBm_1 1 rfl rfl
theorem ne_5 : ("Sumlarder" : String) ≠ "java/lang/invoke/MethodHandle" ∧ ("Sumlarder" : String) ≠ "java/lang/invoke/VarHandle" := by decide +kernel
theorem pd_14 : (parseMethodDescriptor "(II)Z").map (fun d => d.parameters.length) = some 2 := by decide +kernel
theorem pd_15 : (parseMethodDescriptor "(IILSumlarder$Series;)Z").map (fun d => d.parameters.length) = some 3 := by decide +kernel
theorem pd_16 : (parseMethodDescriptor "(IIILSumlarder$Counts;I)I").map (fun d => d.parameters.length) = some 5 := by decide +kernel
theorem pd_17 : (parseMethodDescriptor "(IIII)V").map (fun d => d.parameters.length) = some 4 := by decide +kernel
theorem ini_6 : Cond.initialized "Sumlarder$Counts" ∈ TB := TBm_1 6 rfl rfl
theorem ne_6 : ("Sumlarder$Counts" : String) ≠ "java/lang/invoke/MethodHandle" ∧ ("Sumlarder$Counts" : String) ≠ "java/lang/invoke/VarHandle" := by decide +kernel
theorem pd_18 : (parseMethodDescriptor "(III)V").map (fun d => d.parameters.length) = some 3 := by decide +kernel
theorem pd_19 : (parseMethodDescriptor "(IILSumlarder$Way;)Z").map (fun d => d.parameters.length) = some 3 := by decide +kernel
theorem pd_20 : (parseMethodDescriptor "(I)LSumlarder$Memory;").map (fun d => d.parameters.length) = some 1 := by decide +kernel
theorem pd_21 : (parseMethodDescriptor "(IIILSumlarder$Counts;)I").map (fun d => d.parameters.length) = some 4 := by decide +kernel
theorem pd_22 : (parseMethodDescriptor "(I)LSumlarder$Way;").map (fun d => d.parameters.length) = some 1 := by decide +kernel
theorem pd_23 : (parseMethodDescriptor "(IIII)Z").map (fun d => d.parameters.length) = some 4 := by decide +kernel
theorem pd_24 : (parseMethodDescriptor "(LSumlarder$Memory;)V").map (fun d => d.parameters.length) = some 1 := by decide +kernel
theorem pd_25 : (parseMethodDescriptor "(LSumlarder$Memory;)I").map (fun d => d.parameters.length) = some 1 := by decide +kernel
theorem pd_26 : (parseMethodDescriptor "(LSumlarder$Memory;)Z").map (fun d => d.parameters.length) = some 1 := by decide +kernel
theorem pd_27 : (parseMethodDescriptor "(I)LSumlarder$Ledger;").map (fun d => d.parameters.length) = some 1 := by decide +kernel
theorem pd_28 : (parseMethodDescriptor "(ILSumlarder$Counts;)I").map (fun d => d.parameters.length) = some 2 := by decide +kernel
theorem pd_29 : (parseMethodDescriptor "(LSumlarder$Series;)Z").map (fun d => d.parameters.length) = some 1 := by decide +kernel
theorem ini_7 : Cond.initialized "SumlarderModel" ∈ TB := TBm_1 8 rfl rfl
theorem ne_7 : ("SumlarderModel" : String) ≠ "java/lang/invoke/MethodHandle" ∧ ("SumlarderModel" : String) ≠ "java/lang/invoke/VarHandle" := by decide +kernel
theorem pd_30 : (parseMethodDescriptor "(Z)I").map (fun d => d.parameters.length) = some 1 := by decide +kernel
theorem pd_31 : (parseMethodDescriptor "(IIII)I").map (fun d => d.parameters.length) = some 4 := by decide +kernel
theorem pd_32 : (parseMethodDescriptor "(II)[I").map (fun d => d.parameters.length) = some 2 := by decide +kernel
theorem pd_33 : (parseMethodDescriptor "([IIII)I").map (fun d => d.parameters.length) = some 4 := by decide +kernel
theorem pd_34 : (parseMethodDescriptor "([I)I").map (fun d => d.parameters.length) = some 1 := by decide +kernel
theorem pd_35 : (parseMethodDescriptor "([II)I").map (fun d => d.parameters.length) = some 2 := by decide +kernel
theorem pd_36 : (parseMethodDescriptor "([I)Z").map (fun d => d.parameters.length) = some 1 := by decide +kernel
theorem pd_37 : (parseMethodDescriptor "(I)[I").map (fun d => d.parameters.length) = some 1 := by decide +kernel
theorem pd_38 : (parseMethodDescriptor "([III)Z").map (fun d => d.parameters.length) = some 3 := by decide +kernel
theorem pd_39 : (parseMethodDescriptor "(ZZ)Z").map (fun d => d.parameters.length) = some 2 := by decide +kernel
theorem pd_40 : (parseMethodDescriptor "(I[I)I").map (fun d => d.parameters.length) = some 2 := by decide +kernel
theorem pd_41 : (parseMethodDescriptor "([I)[I").map (fun d => d.parameters.length) = some 1 := by decide +kernel
theorem pd_42 : (parseMethodDescriptor "([I[I)Z").map (fun d => d.parameters.length) = some 2 := by decide +kernel
