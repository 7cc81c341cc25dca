theorem mm_J8_194 : Cond.methodLink RJ8 194 Lib.Math.max.name ∈ TB := TBm_4 142 rfl rfl
theorem ms_max : Cond.static Lib.Math.max.name ∈ TB := TBm_4 143 rfl rfl
theorem mi_Math : Cond.initialized "java/lang/Math" ∈ TB := TBm_1 21 rfl rfl
theorem mc_max : Cond.code Lib.Math.max.name Lib.Math.max.code 2 (some .int) ∈ TB := TBm_4 144 rfl rfl
theorem co_J8_200 : Cond.constant RJ8 200 (2147483639) ∈ TB := TBm_4 145 rfl rfl
theorem uw_J4 : ∀ w ∈ u_ws RJ4 TJ4 4, w ∈ TB := by
  have h : ∀ w ∈ u_ws RJ4 TJ4 4, decide (w ∈ tables_1) = true ∧ goodWord w = true := by decide +kernel
  exact fun w hw => TB_in (List.mem_append_right _ (of_decide_eq_true (h w hw).1)) (h w hw).2
theorem fl_J5_79 : FG RJ5 79 1 3 .int false := ⟨RJ4, TJ4, 4, tyJ4, rfl, by decide, uw_J4, TBm_4 107 rfl rfl, tyJ4_ok, nmJ4, rfl, rfl⟩
theorem ini_8 : Cond.initialized "java/lang/AbstractStringBuilder" ∈ TB := TBm_1 16 rfl rfl
theorem ne_8 : ("java/lang/AbstractStringBuilder" : String) ≠ "java/lang/invoke/MethodHandle" ∧ ("java/lang/AbstractStringBuilder" : String) ≠ "java/lang/invoke/VarHandle" := by decide +kernel
theorem mi_J5_length_8abf5 : MI yJ5_length_8abf5 cJ5_length_8abf5 1 0 (some .int) := ⟨TBm_4 123 rfl rfl, ini_8, ne_8, pd_6, by decide⟩
theorem sm_J5_length_8abf5 : Cond.sameMethod yJ5_length_8abf5.cls yJ5_length_8abf5.cls yJ5_length_8abf5.name yJ5_length_8abf5.desc ∈ TB := TBm_7 9 rfl rfl
theorem sp_J4_J5 : Cond.superclass RJ4 yJ5_length_8abf5.cls ∈ TB := TBm_4 116 rfl rfl
theorem im_J5_length_8abf5 : Cond.instanceMethod yJ5_length_8abf5 ∈ TB := TBm_4 122 rfl rfl
theorem ml_J4_343 : Cond.methodLink RJ4 343 yJ5_length_8abf5 ∈ TB := TBm_4 121 rfl rfl
theorem gs_J5_18 : Cond.fieldLink RJ5 18 "java/lang/String" "COMPACT_STRINGS" "Z" ∈ TB := TBm_4 95 rfl rfl
theorem fl_J5_22 : FG RJ5 22 1 1 .byte false := ⟨RJ4, TJ4, 4, tyJ4, rfl, by decide, uw_J4, TBm_4 105 rfl rfl, tyJ4_ok, nmJ4, rfl, rfl⟩
theorem fl_J5_15 : FG RJ5 15 1 0 (.array .byte) false := ⟨RJ4, TJ4, 4, tyJ4, rfl, by decide, uw_J4, TBm_4 104 rfl rfl, tyJ4_ok, nmJ4, rfl, rfl⟩
theorem ac_byte : Cond.arrayClass .byte ∈ TB := TBm_1 218 rfl rfl
theorem mm_J7_304 : Cond.methodLink RJ7 304 Lib.Math.min.name ∈ TB := TBm_4 160 rfl rfl
theorem ms_min : Cond.static Lib.Math.min.name ∈ TB := TBm_4 161 rfl rfl
theorem mc_min : Cond.code Lib.Math.min.name Lib.Math.min.code 2 (some .int) ∈ TB := TBm_4 162 rfl rfl
theorem ml_J7_150 : Cond.methodLink RJ7 150 arraycopyName ∈ TB := TBm_4 163 rfl rfl
theorem w_cl : Cond.methodLink RJ7 310 ⟨"[B", "clone", "()Ljava/lang/Object;"⟩ ∈ TB ∧ Cond.sameMethod "[B" "java/lang/Object" "clone" "()Ljava/lang/Object;" ∈ TB ∧ Cond.native ⟨"java/lang/Object", "clone", "()Ljava/lang/Object;"⟩ ∈ TB ∧ Cond.instanceMethod ⟨"java/lang/Object", "clone", "()Ljava/lang/Object;"⟩ ∈ TB ∧ Cond.selects "[B" ⟨"[B", "clone", "()Ljava/lang/Object;"⟩ ⟨"java/lang/Object", "clone", "()Ljava/lang/Object;"⟩ ∈ TB ∧ Cond.castable "[B" "java/lang/Cloneable" ∈ NGW ∧ Cond.classLink RJ7 311 "[B" ∈ TB := ⟨TBm_4 153 rfl rfl, TBm_4 154 rfl rfl, TBm_4 155 rfl rfl, TBm_4 156 rfl rfl, TBm_4 157 rfl rfl, NGm_4 158 rfl rfl, TBm_4 159 rfl rfl⟩
theorem mi_J7_checkLength_df160 : MI yJ7_checkLength_df160 cJ7_checkLength_df160 2 2 none := ⟨TBm_5 39 rfl rfl, ini_0, ne_0, pd_2, by decide⟩
theorem st_J7_checkLength_df160 : Cond.static yJ7_checkLength_df160 ∈ TB := TBm_5 38 rfl rfl
theorem ml_J7_343 : Cond.methodLink RJ7 343 yJ7_checkLength_df160 ∈ TB := TBm_5 37 rfl rfl
theorem pd_43 : (parseMethodDescriptor "([BII)[B").map (fun d => d.parameters.length) = some 3 := by decide +kernel
theorem mi_J7_copyOfRangeByte_39247 : MI yJ7_copyOfRangeByte_39247 cJ7_copyOfRangeByte_39247 5 3 (some (.array .byte)) := ⟨TBm_5 36 rfl rfl, ini_0, ne_0, pd_43, by decide⟩
theorem st_J7_copyOfRangeByte_39247 : Cond.static yJ7_copyOfRangeByte_39247 ∈ TB := TBm_5 35 rfl rfl
theorem ml_J7_339 : Cond.methodLink RJ7 339 yJ7_copyOfRangeByte_39247 ∈ TB := TBm_5 34 rfl rfl
theorem ini_9 : Cond.initialized "jdk/internal/util/ArraysSupport" ∈ TB := TBm_1 20 rfl rfl
theorem ne_9 : ("jdk/internal/util/ArraysSupport" : String) ≠ "java/lang/invoke/MethodHandle" ∧ ("jdk/internal/util/ArraysSupport" : String) ≠ "java/lang/invoke/VarHandle" := by decide +kernel
theorem mi_J8_newLength_cabcc : MI yJ8_newLength_cabcc cJ8_newLength_cabcc 4 3 (some .int) := ⟨TBm_4 141 rfl rfl, ini_9, ne_9, pd_9, by decide⟩
theorem st_J8_newLength_cabcc : Cond.static yJ8_newLength_cabcc ∈ TB := TBm_4 140 rfl rfl
theorem ml_J5_114 : Cond.methodLink RJ5 114 yJ8_newLength_cabcc ∈ TB := TBm_4 139 rfl rfl
theorem co_J5_39 : Cond.constant RJ5 39 (2147483647) ∈ TB := TBm_4 149 rfl rfl
theorem mi_J5_newCapacity_0f7a4 : MI yJ5_newCapacity_0f7a4 cJ5_newCapacity_0f7a4 6 1 (some .int) := ⟨TBm_4 138 rfl rfl, ini_8, ne_8, pd_10, by decide⟩
theorem su_J5_isLatin1_aae02 : Cond.selects RJ4 yJ5_isLatin1_aae02 yJ5_isLatin1_aae02 ∈ TB := TBm_4 167 rfl rfl
theorem pv_J5_newCapacity_0f7a4 : Cond.privateMethod yJ5_newCapacity_0f7a4 ∈ NGW := NGm_4 136 rfl rfl
theorem im_J5_newCapacity_0f7a4 : Cond.instanceMethod yJ5_newCapacity_0f7a4 ∈ TB := TBm_4 137 rfl rfl
theorem sm_J5_newCapacity_0f7a4 : Cond.sameMethod yJ5_newCapacity_0f7a4.cls yJ5_newCapacity_0f7a4.cls yJ5_newCapacity_0f7a4.name yJ5_newCapacity_0f7a4.desc ∈ TB := TBm_7 12 rfl rfl
theorem cd_J5_newCapacity_0f7a4 : Cond.code yJ5_newCapacity_0f7a4 cJ5_newCapacity_0f7a4 6 (some .int) ∈ TB := TBm_4 138 rfl rfl
theorem ml_J5_104 : Cond.methodLink RJ5 104 yJ5_newCapacity_0f7a4 ∈ TB := TBm_4 135 rfl rfl
theorem pd_44 : (parseMethodDescriptor "([BI)[B").map (fun d => d.parameters.length) = some 2 := by decide +kernel
theorem mi_J7_copyOf_9075b : MI yJ7_copyOf_9075b cJ7_copyOf_9075b 3 2 (some (.array .byte)) := ⟨TBm_4 152 rfl rfl, ini_0, ne_0, pd_44, by decide⟩
theorem st_J7_copyOf_9075b : Cond.static yJ7_copyOf_9075b ∈ TB := TBm_4 151 rfl rfl
theorem ml_J5_108 : Cond.methodLink RJ5 108 yJ7_copyOf_9075b ∈ TB := TBm_4 150 rfl rfl
theorem gs_J6_83 : Cond.fieldLink RJ6 83 "java/lang/Integer" "DigitOnes" "[B" ∈ TB := TBm_4 230 rfl rfl
theorem gs_J6_87 : Cond.fieldLink RJ6 87 "java/lang/Integer" "DigitTens" "[B" ∈ TB := TBm_4 232 rfl rfl
theorem mi_J5_ensureCapacityInternal_d00df : MI yJ5_ensureCapacityInternal_d00df cJ5_ensureCapacityInternal_d00df 3 1 none := ⟨TBm_4 134 rfl rfl, ini_8, ne_8, pd_8, by decide⟩
theorem pv_J5_ensureCapacityInternal_d00df : Cond.privateMethod yJ5_ensureCapacityInternal_d00df ∈ NGW := NGm_4 132 rfl rfl
theorem im_J5_ensureCapacityInternal_d00df : Cond.instanceMethod yJ5_ensureCapacityInternal_d00df ∈ TB := TBm_4 133 rfl rfl
theorem sm_J5_ensureCapacityInternal_d00df : Cond.sameMethod yJ5_ensureCapacityInternal_d00df.cls yJ5_ensureCapacityInternal_d00df.cls yJ5_ensureCapacityInternal_d00df.name yJ5_ensureCapacityInternal_d00df.desc ∈ TB := TBm_7 11 rfl rfl
theorem cd_J5_ensureCapacityInternal_d00df : Cond.code yJ5_ensureCapacityInternal_d00df cJ5_ensureCapacityInternal_d00df 3 none ∈ TB := TBm_4 134 rfl rfl
theorem ml_J5_100 : Cond.methodLink RJ5 100 yJ5_ensureCapacityInternal_d00df ∈ TB := TBm_4 131 rfl rfl
theorem mi_J5_isLatin1_aae02 : MI yJ5_isLatin1_aae02 cJ5_isLatin1_aae02 1 0 (some .boolean) := ⟨TBm_4 168 rfl rfl, ini_8, ne_8, pd_7, by decide⟩
theorem sm_J5_isLatin1_aae02 : Cond.sameMethod yJ5_isLatin1_aae02.cls yJ5_isLatin1_aae02.cls yJ5_isLatin1_aae02.name yJ5_isLatin1_aae02.desc ∈ TB := TBm_4 166 rfl rfl
theorem cd_J5_isLatin1_aae02 : Cond.code yJ5_isLatin1_aae02 cJ5_isLatin1_aae02 1 (some .boolean) ∈ TB := TBm_4 168 rfl rfl
theorem ml_J5_83 : Cond.methodLink RJ5 83 yJ5_isLatin1_aae02 ∈ TB := TBm_4 164 rfl rfl
theorem im_J5_isLatin1_aae02 : Cond.instanceMethod yJ5_isLatin1_aae02 ∈ TB := TBm_4 165 rfl rfl
theorem ini_10 : Cond.initialized "java/lang/StringLatin1" ∈ TB := TBm_1 22 rfl rfl
theorem ne_10 : ("java/lang/StringLatin1" : String) ≠ "java/lang/invoke/MethodHandle" ∧ ("java/lang/StringLatin1" : String) ≠ "java/lang/invoke/VarHandle" := by decide +kernel
theorem pd_45 : (parseMethodDescriptor "(C)Z").map (fun d => d.parameters.length) = some 1 := by decide +kernel
theorem mi_J1_canEncode_fc78d : MI yJ1_canEncode_fc78d cJ1_canEncode_fc78d 1 1 (some .boolean) := ⟨TBm_4 171 rfl rfl, ini_10, ne_10, pd_45, by decide⟩
theorem st_J1_canEncode_fc78d : Cond.static yJ1_canEncode_fc78d ∈ TB := TBm_4 170 rfl rfl
theorem ml_J5_191 : Cond.methodLink RJ5 191 yJ1_canEncode_fc78d ∈ TB := TBm_4 169 rfl rfl
theorem ini_11 : Cond.initialized "java/lang/Integer" ∈ TB := TBm_1 25 rfl rfl
theorem ne_11 : ("java/lang/Integer" : String) ≠ "java/lang/invoke/MethodHandle" ∧ ("java/lang/Integer" : String) ≠ "java/lang/invoke/VarHandle" := by decide +kernel
theorem mi_J6_stringSize_0f7a4 : MI yJ6_stringSize_0f7a4 cJ6_stringSize_0f7a4 4 1 (some .int) := ⟨TBm_4 226 rfl rfl, ini_11, ne_11, pd_10, by decide⟩
theorem st_J6_stringSize_0f7a4 : Cond.static yJ6_stringSize_0f7a4 ∈ TB := TBm_4 225 rfl rfl
theorem ml_J5_245 : Cond.methodLink RJ5 245 yJ6_stringSize_0f7a4 ∈ TB := TBm_4 224 rfl rfl
theorem pd_46 : (parseMethodDescriptor "(II[B)I").map (fun d => d.parameters.length) = some 3 := by decide +kernel
theorem mi_J6_getChars_ba4f3 : MI yJ6_getChars_ba4f3 cJ6_getChars_ba4f3 7 3 (some .int) := ⟨TBm_4 229 rfl rfl, ini_11, ne_11, pd_46, by decide⟩
theorem st_J6_getChars_ba4f3 : Cond.static yJ6_getChars_ba4f3 ∈ TB := TBm_4 228 rfl rfl
theorem ml_J5_248 : Cond.methodLink RJ5 248 yJ6_getChars_ba4f3 ∈ TB := TBm_4 227 rfl rfl
theorem pd_47 : (parseMethodDescriptor "(C)Ljava/lang/AbstractStringBuilder;").map (fun d => d.parameters.length) = some 1 := by decide +kernel
theorem mi_J5_append_3fe6f : MI yJ5_append_3fe6f cJ5_append_3fe6f 2 1 (some (.object "java/lang/AbstractStringBuilder")) := ⟨TBm_4 130 rfl rfl, ini_8, ne_8, pd_47, by decide⟩
theorem sm_J5_append_3fe6f : Cond.sameMethod yJ5_append_3fe6f.cls yJ5_append_3fe6f.cls yJ5_append_3fe6f.name yJ5_append_3fe6f.desc ∈ TB := TBm_7 10 rfl rfl
theorem im_J5_append_3fe6f : Cond.instanceMethod yJ5_append_3fe6f ∈ TB := TBm_4 129 rfl rfl
theorem ml_J4_50 : Cond.methodLink RJ4 50 yJ5_append_3fe6f ∈ TB := TBm_4 128 rfl rfl
theorem pd_48 : (parseMethodDescriptor "(I)Ljava/lang/AbstractStringBuilder;").map (fun d => d.parameters.length) = some 1 := by decide +kernel
theorem mi_J5_append_c97b9 : MI yJ5_append_c97b9 cJ5_append_c97b9 4 1 (some (.object "java/lang/AbstractStringBuilder")) := ⟨TBm_4 223 rfl rfl, ini_8, ne_8, pd_48, by decide⟩
theorem sm_J5_append_c97b9 : Cond.sameMethod yJ5_append_c97b9.cls yJ5_append_c97b9.cls yJ5_append_c97b9.name yJ5_append_c97b9.desc ∈ TB := TBm_7 14 rfl rfl
theorem im_J5_append_c97b9 : Cond.instanceMethod yJ5_append_c97b9 ∈ TB := TBm_4 222 rfl rfl
theorem ml_J4_53 : Cond.methodLink RJ4 53 yJ5_append_c97b9 ∈ TB := TBm_4 221 rfl rfl
theorem ml_J5_3 : Cond.methodLink RJ5 3 objectInit ∈ TB := TBm_4 94 rfl rfl
theorem mi_J5_init_d00df : MI yJ5_init_d00df cJ5_init_d00df 2 1 none := ⟨TBm_4 93 rfl rfl, ini_8, ne_8, pd_8, by decide⟩
theorem im_J5_init_d00df : Cond.instanceMethod yJ5_init_d00df ∈ TB := TBm_4 92 rfl rfl
theorem ml_J4_1 : Cond.methodLink RJ4 1 yJ5_init_d00df ∈ TB := TBm_4 91 rfl rfl
theorem ml_J0_1 : Cond.methodLink RJ0 1 objectInit ∈ TB := TBm_5 23 rfl rfl
theorem pd_49 : (parseMethodDescriptor "()[B").map (fun d => d.parameters.length) = some 0 := by decide +kernel
theorem mi_J5_getValue_6d5f1 : MI yJ5_getValue_6d5f1 cJ5_getValue_6d5f1 1 0 (some (.array .byte)) := ⟨TBm_5 28 rfl rfl, ini_8, ne_8, pd_49, by decide⟩
theorem su_J5_getValue_6d5f1 : Cond.selects RJ4 yJ5_getValue_6d5f1 yJ5_getValue_6d5f1 ∈ TB := TBm_5 27 rfl rfl
theorem sm_J5_getValue_6d5f1 : Cond.sameMethod yJ5_getValue_6d5f1.cls yJ5_getValue_6d5f1.cls yJ5_getValue_6d5f1.name yJ5_getValue_6d5f1.desc ∈ TB := TBm_5 26 rfl rfl
theorem cd_J5_getValue_6d5f1 : Cond.code yJ5_getValue_6d5f1 cJ5_getValue_6d5f1 1 (some (.array .byte)) ∈ TB := TBm_5 28 rfl rfl
theorem ml_J0_552 : Cond.methodLink RJ0 552 yJ5_getValue_6d5f1 ∈ TB := TBm_5 24 rfl rfl
theorem im_J5_getValue_6d5f1 : Cond.instanceMethod yJ5_getValue_6d5f1 ∈ TB := TBm_5 25 rfl rfl
theorem ini_12 : Cond.initialized "java/lang/StringBuilder" ∈ TB := TBm_1 17 rfl rfl
theorem ne_12 : ("java/lang/StringBuilder" : String) ≠ "java/lang/invoke/MethodHandle" ∧ ("java/lang/StringBuilder" : String) ≠ "java/lang/invoke/VarHandle" := by decide +kernel
theorem mi_J4_length_8abf5 : MI yJ4_length_8abf5 cJ4_length_8abf5 1 0 (some .int) := ⟨TBm_4 120 rfl rfl, ini_12, ne_12, pd_6, by decide⟩
theorem su_J5_length_8abf5 : Cond.selects RJ4 yJ5_length_8abf5 yJ4_length_8abf5 ∈ TB := TBm_7 15 rfl rfl
theorem cd_J5_length_8abf5 : Cond.code yJ5_length_8abf5 cJ5_length_8abf5 1 (some .int) ∈ TB := TBm_4 123 rfl rfl
theorem ml_J0_549 : Cond.methodLink RJ0 549 yJ5_length_8abf5 ∈ TB := TBm_5 29 rfl rfl
theorem im_J4_length_8abf5 : Cond.instanceMethod yJ4_length_8abf5 ∈ TB := TBm_4 118 rfl rfl
theorem ml_J0_1047 : Cond.methodLink RJ0 1047 yJ5_isLatin1_aae02 ∈ TB := TBm_5 30 rfl rfl
theorem gs_J0_38 : Cond.fieldLink RJ0 38 "java/lang/String" "COMPACT_STRINGS" "Z" ∈ TB := TBm_5 67 rfl rfl
theorem fl_J0_1048 : FG RJ0 1048 1 2 .boolean false := ⟨RJ4, TJ4, 4, tyJ4, rfl, by decide, uw_J4, TBm_4 106 rfl rfl, tyJ4_ok, nmJ4, rfl, rfl⟩
theorem uw_J0 : ∀ w ∈ u_ws RJ0 TJ0 4, w ∈ TB := by
  have h : ∀ w ∈ u_ws RJ0 TJ0 4, decide (w ∈ tables_1) = true ∧ goodWord w = true := by decide +kernel
  exact fun w hw => TB_in (List.mem_append_right _ (of_decide_eq_true (h w hw).1)) (h w hw).2
theorem fl_J0_15 : FG RJ0 15 0 1 .byte true := ⟨RJ0, TJ0, 4, tyJ0, rfl, by decide, uw_J0, TBm_5 99 rfl rfl, tyJ0_ok, nmJ0, rfl, rfl⟩
theorem mi_J7_copyOfRange_39247 : MI yJ7_copyOfRange_39247 cJ7_copyOfRange_39247 3 3 (some (.array .byte)) := ⟨TBm_5 33 rfl rfl, ini_0, ne_0, pd_43, by decide⟩
theorem st_J7_copyOfRange_39247 : Cond.static yJ7_copyOfRange_39247 ∈ TB := TBm_5 32 rfl rfl
theorem ml_J0_54 : Cond.methodLink RJ0 54 yJ7_copyOfRange_39247 ∈ TB := TBm_5 31 rfl rfl
theorem fl_J0_9 : FG RJ0 9 0 0 (.array .byte) true := ⟨RJ0, TJ0, 4, tyJ0, rfl, by decide, uw_J0, TBm_5 98 rfl rfl, tyJ0_ok, nmJ0, rfl, rfl⟩
theorem ini_13 : Cond.initialized "java/lang/String" ∈ TB := TBm_1 18 rfl rfl
theorem ne_13 : ("java/lang/String" : String) ≠ "java/lang/invoke/MethodHandle" ∧ ("java/lang/String" : String) ≠ "java/lang/invoke/VarHandle" := by decide +kernel
theorem pd_50 : (parseMethodDescriptor "(Ljava/lang/AbstractStringBuilder;Ljava/lang/Void;)V").map (fun d => d.parameters.length) = some 2 := by decide +kernel
theorem mi_J0_init_db425 : MI yJ0_init_db425 cJ0_init_db425 5 2 none := ⟨TBm_5 22 rfl rfl, ini_13, ne_13, pd_50, by decide⟩
theorem im_J0_init_db425 : Cond.instanceMethod yJ0_init_db425 ∈ TB := TBm_5 21 rfl rfl
theorem ml_J0_489 : Cond.methodLink RJ0 489 yJ0_init_db425 ∈ TB := TBm_5 20 rfl rfl
theorem nw_J4_18 : NW RJ4 18 0 4 [.null, .int (0 : Int32), .int (0 : Int32), .int (0 : Int32)] := ⟨RJ0, TJ0, tyJ0, rfl, uw_J0, tyJ0_ok, TBm_5 15 rfl rfl, TBm_5 16 rfl rfl, TBm_1 18 rfl rfl, fun j hj => by (have : j = 0 ∨ j = 1 ∨ j = 2 ∨ j = 3 := by omega); rcases this with rfl | rfl | rfl | rfl <;> rfl⟩
theorem pd_51 : (parseMethodDescriptor "(Ljava/lang/StringBuilder;)V").map (fun d => d.parameters.length) = some 1 := by decide +kernel
theorem mi_J0_init_81219 : MI yJ0_init_81219 cJ0_init_81219 2 1 none := ⟨TBm_5 19 rfl rfl, ini_13, ne_13, pd_51, by decide⟩
theorem im_J0_init_81219 : Cond.instanceMethod yJ0_init_81219 ∈ TB := TBm_5 18 rfl rfl
theorem ml_J4_137 : Cond.methodLink RJ4 137 yJ0_init_81219 ∈ TB := TBm_5 17 rfl rfl
theorem nw_X4_63 : NW RX4 63 1 4 [.null, .int (0 : Int32), .int (0 : Int32), .int (0 : Int32)] := ⟨RJ4, TJ4, tyJ4, rfl, uw_J4, tyJ4_ok, TBm_4 86 rfl rfl, TBm_4 87 rfl rfl, TBm_1 17 rfl rfl, fun j hj => by (have : j = 0 ∨ j = 1 ∨ j = 2 ∨ j = 3 := by omega); rcases this with rfl | rfl | rfl | rfl <;> rfl⟩
theorem mi_J4_init_da8c8 : MI yJ4_init_da8c8 cJ4_init_da8c8 1 0 none := ⟨TBm_4 90 rfl rfl, ini_12, ne_12, pd_1, by decide⟩
theorem im_J4_init_da8c8 : Cond.instanceMethod yJ4_init_da8c8 ∈ TB := TBm_4 89 rfl rfl
theorem ml_X4_65 : Cond.methodLink RX4 65 yJ4_init_da8c8 ∈ TB := TBm_4 88 rfl rfl
theorem pd_52 : (parseMethodDescriptor "()Ljava/lang/String;").map (fun d => d.parameters.length) = some 0 := by decide +kernel
theorem mi_J4_toString_0e30d : MI yJ4_toString_0e30d cJ4_toString_0e30d 1 0 (some (.object "java/lang/String")) := ⟨TBm_5 14 rfl rfl, ini_12, ne_12, pd_52, by decide⟩
theorem im_J4_toString_0e30d : Cond.instanceMethod yJ4_toString_0e30d ∈ TB := TBm_5 12 rfl rfl
theorem se_J4_toString_0e30d : Cond.selects yJ4_toString_0e30d.cls yJ4_toString_0e30d yJ4_toString_0e30d ∈ TB := TBm_5 13 rfl rfl
theorem ml_X4_76 : Cond.methodLink RX4 76 yJ4_toString_0e30d ∈ TB := TBm_5 11 rfl rfl
theorem se_J4_length_8abf5 : Cond.selects yJ4_length_8abf5.cls yJ4_length_8abf5 yJ4_length_8abf5 ∈ TB := TBm_4 119 rfl rfl
theorem ml_X4_66 : Cond.methodLink RX4 66 yJ4_length_8abf5 ∈ TB := TBm_4 117 rfl rfl
theorem pd_53 : (parseMethodDescriptor "(I)Ljava/lang/StringBuilder;").map (fun d => d.parameters.length) = some 1 := by decide +kernel
theorem mi_J4_append_bf812 : MI yJ4_append_bf812 cJ4_append_bf812 2 1 (some (.object "java/lang/StringBuilder")) := ⟨TBm_4 220 rfl rfl, ini_12, ne_12, pd_53, by decide⟩
theorem im_J4_append_bf812 : Cond.instanceMethod yJ4_append_bf812 ∈ TB := TBm_4 218 rfl rfl
theorem se_J4_append_bf812 : Cond.selects yJ4_append_bf812.cls yJ4_append_bf812 yJ4_append_bf812 ∈ TB := TBm_4 219 rfl rfl
theorem ml_X4_73 : Cond.methodLink RX4 73 yJ4_append_bf812 ∈ TB := TBm_4 217 rfl rfl
theorem pd_54 : (parseMethodDescriptor "(C)Ljava/lang/StringBuilder;").map (fun d => d.parameters.length) = some 1 := by decide +kernel
theorem mi_J4_append_cf468 : MI yJ4_append_cf468 cJ4_append_cf468 2 1 (some (.object "java/lang/StringBuilder")) := ⟨TBm_4 127 rfl rfl, ini_12, ne_12, pd_54, by decide⟩
theorem im_J4_append_cf468 : Cond.instanceMethod yJ4_append_cf468 ∈ TB := TBm_4 125 rfl rfl
theorem se_J4_append_cf468 : Cond.selects yJ4_append_cf468.cls yJ4_append_cf468 yJ4_append_cf468 ∈ TB := TBm_4 126 rfl rfl
theorem ml_X4_69 : Cond.methodLink RX4 69 yJ4_append_cf468 ∈ TB := TBm_4 124 rfl rfl
theorem mi_X4_text : MI yX4_text cX4_text 4 0 (some (.object "java/lang/String")) := ⟨TBm_4 85 rfl rfl, ini_1, ne_1, pd_52, by decide⟩
theorem im_X4_text : Cond.instanceMethod yX4_text ∈ TB := TBm_4 83 rfl rfl
theorem se_X4_text : Cond.selects yX4_text.cls yX4_text yX4_text ∈ TB := TBm_4 84 rfl rfl
theorem ml_X5_204 : Cond.methodLink RX5 204 yX4_text ∈ TB := TBm_4 82 rfl rfl
theorem nw_X7_179 : NW RX7 179 1 4 [.null, .int (0 : Int32), .int (0 : Int32), .int (0 : Int32)] := ⟨RJ4, TJ4, tyJ4, rfl, uw_J4, tyJ4_ok, TBm_6 216 rfl rfl, TBm_4 87 rfl rfl, TBm_1 17 rfl rfl, fun j hj => by (have : j = 0 ∨ j = 1 ∨ j = 2 ∨ j = 3 := by omega); rcases this with rfl | rfl | rfl | rfl <;> rfl⟩
theorem ml_X7_181 : Cond.methodLink RX7 181 yJ4_init_da8c8 ∈ TB := TBm_6 217 rfl rfl
theorem ml_X7_192 : Cond.methodLink RX7 192 yJ4_toString_0e30d ∈ TB := TBm_6 221 rfl rfl
theorem ml_X7_182 : Cond.methodLink RX7 182 yJ4_length_8abf5 ∈ TB := TBm_6 218 rfl rfl
theorem ml_X7_189 : Cond.methodLink RX7 189 yJ4_append_bf812 ∈ TB := TBm_6 220 rfl rfl
theorem ml_X7_185 : Cond.methodLink RX7 185 yJ4_append_cf468 ∈ TB := TBm_6 219 rfl rfl
