section MG_33wwords
theorem mm_J8_194 : Cond.methodLink RJ8 194 Lib.Math.max.name ∈ TB := TBm_4 142 rfl rfl
theorem ms_max : Cond.static Lib.Math.max.name ∈ TB := TBm_4 143 rfl rfl
theorem mi_Math : Cond.initialized "java/lang/Math" ∈ TB := TBm_1 21 rfl rfl
theorem mc_max : Cond.code Lib.Math.max.name Lib.Math.max.code 2 (some .int) ∈ TB := TBm_4 144 rfl rfl
theorem co_J8_200 : Cond.constant RJ8 200 (2147483639) ∈ TB := TBm_4 145 rfl rfl
theorem uw_J4 : ∀ w ∈ u_ws RJ4 TJ4 4, w ∈ TB := by
  have h : ∀ w ∈ u_ws RJ4 TJ4 4, decide (w ∈ tables_1) = true ∧ goodWord w = true := by decide +kernel
  exact fun w hw => TB_in (List.mem_append_right _ (of_decide_eq_true (h w hw).1)) (h w hw).2
theorem fl_J5_79 : FG RJ5 79 1 3 .int false := ⟨RJ4, TJ4, 4, tyJ4, rfl, by decide, uw_J4, TBm_4 107 rfl rfl, tyJ4_ok, nmJ4, rfl, rfl⟩
theorem ini_8 : Cond.initialized "java/lang/AbstractStringBuilder" ∈ TB := TBm_1 16 rfl rfl
theorem ne_8 : ("java/lang/AbstractStringBuilder" : String) ≠ "java/lang/invoke/MethodHandle" ∧ ("java/lang/AbstractStringBuilder" : String) ≠ "java/lang/invoke/VarHandle" := by decide +kernel
theorem mi_J5_length_8abf5 : MI yJ5_length_8abf5 cJ5_length_8abf5 1 0 (some .int) := ⟨TBm_4 123 rfl rfl, ini_8, ne_8, pd_6, by decide⟩
theorem sm_J5_length_8abf5 : Cond.sameMethod yJ5_length_8abf5.cls yJ5_length_8abf5.cls yJ5_length_8abf5.name yJ5_length_8abf5.desc ∈ TB := TBm_7 9 rfl rfl
theorem sp_J4_J5 : Cond.superclass RJ4 yJ5_length_8abf5.cls ∈ TB := TBm_4 116 rfl rfl
theorem im_J5_length_8abf5 : Cond.instanceMethod yJ5_length_8abf5 ∈ TB := TBm_4 122 rfl rfl
theorem ml_J4_343 : Cond.methodLink RJ4 343 yJ5_length_8abf5 ∈ TB := TBm_4 121 rfl rfl
theorem gs_J5_18 : Cond.fieldLink RJ5 18 "java/lang/String" "COMPACT_STRINGS" "Z" ∈ TB := TBm_4 95 rfl rfl
theorem fl_J5_22 : FG RJ5 22 1 1 .byte false := ⟨RJ4, TJ4, 4, tyJ4, rfl, by decide, uw_J4, TBm_4 105 rfl rfl, tyJ4_ok, nmJ4, rfl, rfl⟩
theorem fl_J5_15 : FG RJ5 15 1 0 (.array .byte) false := ⟨RJ4, TJ4, 4, tyJ4, rfl, by decide, uw_J4, TBm_4 104 rfl rfl, tyJ4_ok, nmJ4, rfl, rfl⟩
theorem ac_byte : Cond.arrayClass .byte ∈ TB := TBm_1 218 rfl rfl
theorem mm_J7_304 : Cond.methodLink RJ7 304 Lib.Math.min.name ∈ TB := TBm_4 160 rfl rfl
theorem ms_min : Cond.static Lib.Math.min.name ∈ TB := TBm_4 161 rfl rfl
theorem mc_min : Cond.code Lib.Math.min.name Lib.Math.min.code 2 (some .int) ∈ TB := TBm_4 162 rfl rfl
theorem ml_J7_150 : Cond.methodLink RJ7 150 arraycopyName ∈ TB := TBm_4 163 rfl rfl
theorem w_cl : Cond.methodLink RJ7 310 ⟨"[B", "clone", "()Ljava/lang/Object;"⟩ ∈ TB ∧ Cond.sameMethod "[B" "java/lang/Object" "clone" "()Ljava/lang/Object;" ∈ TB ∧ Cond.native ⟨"java/lang/Object", "clone", "()Ljava/lang/Object;"⟩ ∈ TB ∧ Cond.instanceMethod ⟨"java/lang/Object", "clone", "()Ljava/lang/Object;"⟩ ∈ TB ∧ Cond.selects "[B" ⟨"[B", "clone", "()Ljava/lang/Object;"⟩ ⟨"java/lang/Object", "clone", "()Ljava/lang/Object;"⟩ ∈ TB ∧ Cond.castable "[B" "java/lang/Cloneable" ∈ NGW ∧ Cond.classLink RJ7 311 "[B" ∈ TB := ⟨TBm_4 153 rfl rfl, TBm_4 154 rfl rfl, TBm_4 155 rfl rfl, TBm_4 156 rfl rfl, TBm_4 157 rfl rfl, NGm_4 158 rfl rfl, TBm_4 159 rfl rfl⟩
theorem mi_J7_checkLength_df160 : MI yJ7_checkLength_df160 cJ7_checkLength_df160 2 2 none := ⟨TBm_5 39 rfl rfl, ini_0, ne_0, pd_2, by decide⟩
theorem st_J7_checkLength_df160 : Cond.static yJ7_checkLength_df160 ∈ TB := TBm_5 38 rfl rfl
theorem ml_J7_343 : Cond.methodLink RJ7 343 yJ7_checkLength_df160 ∈ TB := TBm_5 37 rfl rfl
theorem pd_43 : (parseMethodDescriptor "([BII)[B").map (fun d => d.parameters.length) = some 3 := by decide +kernel
theorem mi_J7_copyOfRangeByte_39247 : MI yJ7_copyOfRangeByte_39247 cJ7_copyOfRangeByte_39247 5 3 (some (.array .byte)) := ⟨TBm_5 36 rfl rfl, ini_0, ne_0, pd_43, by decide⟩
theorem st_J7_copyOfRangeByte_39247 : Cond.static yJ7_copyOfRangeByte_39247 ∈ TB := TBm_5 35 rfl rfl
theorem ml_J7_339 : Cond.methodLink RJ7 339 yJ7_copyOfRangeByte_39247 ∈ TB := TBm_5 34 rfl rfl
theorem ini_9 : Cond.initialized "jdk/internal/util/ArraysSupport" ∈ TB := TBm_1 20 rfl rfl
theorem ne_9 : ("jdk/internal/util/ArraysSupport" : String) ≠ "java/lang/invoke/MethodHandle" ∧ ("jdk/internal/util/ArraysSupport" : String) ≠ "java/lang/invoke/VarHandle" := by decide +kernel
theorem mi_J8_newLength_cabcc : MI yJ8_newLength_cabcc cJ8_newLength_cabcc 4 3 (some .int) := ⟨TBm_4 141 rfl rfl, ini_9, ne_9, pd_9, by decide⟩
theorem st_J8_newLength_cabcc : Cond.static yJ8_newLength_cabcc ∈ TB := TBm_4 140 rfl rfl
theorem ml_J5_114 : Cond.methodLink RJ5 114 yJ8_newLength_cabcc ∈ TB := TBm_4 139 rfl rfl
theorem co_J5_39 : Cond.constant RJ5 39 (2147483647) ∈ TB := TBm_4 149 rfl rfl
theorem mi_J5_newCapacity_0f7a4 : MI yJ5_newCapacity_0f7a4 cJ5_newCapacity_0f7a4 6 1 (some .int) := ⟨TBm_4 138 rfl rfl, ini_8, ne_8, pd_10, by decide⟩
theorem su_J5_isLatin1_aae02 : Cond.selects RJ4 yJ5_isLatin1_aae02 yJ5_isLatin1_aae02 ∈ TB := TBm_4 167 rfl rfl
theorem pv_J5_newCapacity_0f7a4 : Cond.privateMethod yJ5_newCapacity_0f7a4 ∈ NGW := NGm_4 136 rfl rfl
theorem im_J5_newCapacity_0f7a4 : Cond.instanceMethod yJ5_newCapacity_0f7a4 ∈ TB := TBm_4 137 rfl rfl
theorem sm_J5_newCapacity_0f7a4 : Cond.sameMethod yJ5_newCapacity_0f7a4.cls yJ5_newCapacity_0f7a4.cls yJ5_newCapacity_0f7a4.name yJ5_newCapacity_0f7a4.desc ∈ TB := TBm_7 12 rfl rfl
theorem cd_J5_newCapacity_0f7a4 : Cond.code yJ5_newCapacity_0f7a4 cJ5_newCapacity_0f7a4 6 (some .int) ∈ TB := TBm_4 138 rfl rfl
theorem ml_J5_104 : Cond.methodLink RJ5 104 yJ5_newCapacity_0f7a4 ∈ TB := TBm_4 135 rfl rfl
theorem pd_44 : (parseMethodDescriptor "([BI)[B").map (fun d => d.parameters.length) = some 2 := by decide +kernel
theorem mi_J7_copyOf_9075b : MI yJ7_copyOf_9075b cJ7_copyOf_9075b 3 2 (some (.array .byte)) := ⟨TBm_4 152 rfl rfl, ini_0, ne_0, pd_44, by decide⟩
theorem st_J7_copyOf_9075b : Cond.static yJ7_copyOf_9075b ∈ TB := TBm_4 151 rfl rfl
theorem ml_J5_108 : Cond.methodLink RJ5 108 yJ7_copyOf_9075b ∈ TB := TBm_4 150 rfl rfl
theorem gs_J6_83 : Cond.fieldLink RJ6 83 "java/lang/Integer" "DigitOnes" "[B" ∈ TB := TBm_4 230 rfl rfl
theorem gs_J6_87 : Cond.fieldLink RJ6 87 "java/lang/Integer" "DigitTens" "[B" ∈ TB := TBm_4 232 rfl rfl
theorem mi_J5_ensureCapacityInternal_d00df : MI yJ5_ensureCapacityInternal_d00df cJ5_ensureCapacityInternal_d00df 3 1 none := ⟨TBm_4 134 rfl rfl, ini_8, ne_8, pd_8, by decide⟩
theorem pv_J5_ensureCapacityInternal_d00df : Cond.privateMethod yJ5_ensureCapacityInternal_d00df ∈ NGW := NGm_4 132 rfl rfl
theorem im_J5_ensureCapacityInternal_d00df : Cond.instanceMethod yJ5_ensureCapacityInternal_d00df ∈ TB := TBm_4 133 rfl rfl
theorem sm_J5_ensureCapacityInternal_d00df : Cond.sameMethod yJ5_ensureCapacityInternal_d00df.cls yJ5_ensureCapacityInternal_d00df.cls yJ5_ensureCapacityInternal_d00df.name yJ5_ensureCapacityInternal_d00df.desc ∈ TB := TBm_7 11 rfl rfl
theorem cd_J5_ensureCapacityInternal_d00df : Cond.code yJ5_ensureCapacityInternal_d00df cJ5_ensureCapacityInternal_d00df 3 none ∈ TB := TBm_4 134 rfl rfl
theorem ml_J5_100 : Cond.methodLink RJ5 100 yJ5_ensureCapacityInternal_d00df ∈ TB := TBm_4 131 rfl rfl
theorem mi_J5_isLatin1_aae02 : MI yJ5_isLatin1_aae02 cJ5_isLatin1_aae02 1 0 (some .boolean) := ⟨TBm_4 168 rfl rfl, ini_8, ne_8, pd_7, by decide⟩
theorem sm_J5_isLatin1_aae02 : Cond.sameMethod yJ5_isLatin1_aae02.cls yJ5_isLatin1_aae02.cls yJ5_isLatin1_aae02.name yJ5_isLatin1_aae02.desc ∈ TB := TBm_4 166 rfl rfl
theorem cd_J5_isLatin1_aae02 : Cond.code yJ5_isLatin1_aae02 cJ5_isLatin1_aae02 1 (some .boolean) ∈ TB := TBm_4 168 rfl rfl
theorem ml_J5_83 : Cond.methodLink RJ5 83 yJ5_isLatin1_aae02 ∈ TB := TBm_4 164 rfl rfl
theorem im_J5_isLatin1_aae02 : Cond.instanceMethod yJ5_isLatin1_aae02 ∈ TB := TBm_4 165 rfl rfl
theorem ini_10 : Cond.initialized "java/lang/StringLatin1" ∈ TB := TBm_1 22 rfl rfl
theorem ne_10 : ("java/lang/StringLatin1" : String) ≠ "java/lang/invoke/MethodHandle" ∧ ("java/lang/StringLatin1" : String) ≠ "java/lang/invoke/VarHandle" := by decide +kernel
theorem pd_45 : (parseMethodDescriptor "(C)Z").map (fun d => d.parameters.length) = some 1 := by decide +kernel
theorem mi_J1_canEncode_fc78d : MI yJ1_canEncode_fc78d cJ1_canEncode_fc78d 1 1 (some .boolean) := ⟨TBm_4 171 rfl rfl, ini_10, ne_10, pd_45, by decide⟩
theorem st_J1_canEncode_fc78d : Cond.static yJ1_canEncode_fc78d ∈ TB := TBm_4 170 rfl rfl
theorem ml_J5_191 : Cond.methodLink RJ5 191 yJ1_canEncode_fc78d ∈ TB := TBm_4 169 rfl rfl
theorem ini_11 : Cond.initialized "java/lang/Integer" ∈ TB := TBm_1 25 rfl rfl
theorem ne_11 : ("java/lang/Integer" : String) ≠ "java/lang/invoke/MethodHandle" ∧ ("java/lang/Integer" : String) ≠ "java/lang/invoke/VarHandle" := by decide +kernel
theorem mi_J6_stringSize_0f7a4 : MI yJ6_stringSize_0f7a4 cJ6_stringSize_0f7a4 4 1 (some .int) := ⟨TBm_4 226 rfl rfl, ini_11, ne_11, pd_10, by decide⟩
theorem st_J6_stringSize_0f7a4 : Cond.static yJ6_stringSize_0f7a4 ∈ TB := TBm_4 225 rfl rfl
theorem ml_J5_245 : Cond.methodLink RJ5 245 yJ6_stringSize_0f7a4 ∈ TB := TBm_4 224 rfl rfl
theorem pd_46 : (parseMethodDescriptor "(II[B)I").map (fun d => d.parameters.length) = some 3 := by decide +kernel
theorem mi_J6_getChars_ba4f3 : MI yJ6_getChars_ba4f3 cJ6_getChars_ba4f3 7 3 (some .int) := ⟨TBm_4 229 rfl rfl, ini_11, ne_11, pd_46, by decide⟩
theorem st_J6_getChars_ba4f3 : Cond.static yJ6_getChars_ba4f3 ∈ TB := TBm_4 228 rfl rfl
theorem ml_J5_248 : Cond.methodLink RJ5 248 yJ6_getChars_ba4f3 ∈ TB := TBm_4 227 rfl rfl
theorem pd_47 : (parseMethodDescriptor "(C)Ljava/lang/AbstractStringBuilder;").map (fun d => d.parameters.length) = some 1 := by decide +kernel
theorem mi_J5_append_3fe6f : MI yJ5_append_3fe6f cJ5_append_3fe6f 2 1 (some (.object "java/lang/AbstractStringBuilder")) := ⟨TBm_4 130 rfl rfl, ini_8, ne_8, pd_47, by decide⟩
theorem sm_J5_append_3fe6f : Cond.sameMethod yJ5_append_3fe6f.cls yJ5_append_3fe6f.cls yJ5_append_3fe6f.name yJ5_append_3fe6f.desc ∈ TB := TBm_7 10 rfl rfl
theorem im_J5_append_3fe6f : Cond.instanceMethod yJ5_append_3fe6f ∈ TB := TBm_4 129 rfl rfl
theorem ml_J4_50 : Cond.methodLink RJ4 50 yJ5_append_3fe6f ∈ TB := TBm_4 128 rfl rfl
theorem pd_48 : (parseMethodDescriptor "(I)Ljava/lang/AbstractStringBuilder;").map (fun d => d.parameters.length) = some 1 := by decide +kernel
theorem mi_J5_append_c97b9 : MI yJ5_append_c97b9 cJ5_append_c97b9 4 1 (some (.object "java/lang/AbstractStringBuilder")) := ⟨TBm_4 223 rfl rfl, ini_8, ne_8, pd_48, by decide⟩
theorem sm_J5_append_c97b9 : Cond.sameMethod yJ5_append_c97b9.cls yJ5_append_c97b9.cls yJ5_append_c97b9.name yJ5_append_c97b9.desc ∈ TB := TBm_7 14 rfl rfl
theorem im_J5_append_c97b9 : Cond.instanceMethod yJ5_append_c97b9 ∈ TB := TBm_4 222 rfl rfl
theorem ml_J4_53 : Cond.methodLink RJ4 53 yJ5_append_c97b9 ∈ TB := TBm_4 221 rfl rfl
theorem ml_J5_3 : Cond.methodLink RJ5 3 objectInit ∈ TB := TBm_4 94 rfl rfl
theorem mi_J5_init_d00df : MI yJ5_init_d00df cJ5_init_d00df 2 1 none := ⟨TBm_4 93 rfl rfl, ini_8, ne_8, pd_8, by decide⟩
theorem im_J5_init_d00df : Cond.instanceMethod yJ5_init_d00df ∈ TB := TBm_4 92 rfl rfl
theorem ml_J4_1 : Cond.methodLink RJ4 1 yJ5_init_d00df ∈ TB := TBm_4 91 rfl rfl
theorem ml_J0_1 : Cond.methodLink RJ0 1 objectInit ∈ TB := TBm_5 23 rfl rfl
theorem pd_49 : (parseMethodDescriptor "()[B").map (fun d => d.parameters.length) = some 0 := by decide +kernel
theorem mi_J5_getValue_6d5f1 : MI yJ5_getValue_6d5f1 cJ5_getValue_6d5f1 1 0 (some (.array .byte)) := ⟨TBm_5 28 rfl rfl, ini_8, ne_8, pd_49, by decide⟩
theorem su_J5_getValue_6d5f1 : Cond.selects RJ4 yJ5_getValue_6d5f1 yJ5_getValue_6d5f1 ∈ TB := TBm_5 27 rfl rfl
theorem sm_J5_getValue_6d5f1 : Cond.sameMethod yJ5_getValue_6d5f1.cls yJ5_getValue_6d5f1.cls yJ5_getValue_6d5f1.name yJ5_getValue_6d5f1.desc ∈ TB := TBm_5 26 rfl rfl
theorem cd_J5_getValue_6d5f1 : Cond.code yJ5_getValue_6d5f1 cJ5_getValue_6d5f1 1 (some (.array .byte)) ∈ TB := TBm_5 28 rfl rfl
theorem ml_J0_552 : Cond.methodLink RJ0 552 yJ5_getValue_6d5f1 ∈ TB := TBm_5 24 rfl rfl
theorem im_J5_getValue_6d5f1 : Cond.instanceMethod yJ5_getValue_6d5f1 ∈ TB := TBm_5 25 rfl rfl
theorem ini_12 : Cond.initialized "java/lang/StringBuilder" ∈ TB := TBm_1 17 rfl rfl
theorem ne_12 : ("java/lang/StringBuilder" : String) ≠ "java/lang/invoke/MethodHandle" ∧ ("java/lang/StringBuilder" : String) ≠ "java/lang/invoke/VarHandle" := by decide +kernel
theorem mi_J4_length_8abf5 : MI yJ4_length_8abf5 cJ4_length_8abf5 1 0 (some .int) := ⟨TBm_4 120 rfl rfl, ini_12, ne_12, pd_6, by decide⟩
theorem su_J5_length_8abf5 : Cond.selects RJ4 yJ5_length_8abf5 yJ4_length_8abf5 ∈ TB := TBm_7 15 rfl rfl
theorem cd_J5_length_8abf5 : Cond.code yJ5_length_8abf5 cJ5_length_8abf5 1 (some .int) ∈ TB := TBm_4 123 rfl rfl
theorem ml_J0_549 : Cond.methodLink RJ0 549 yJ5_length_8abf5 ∈ TB := TBm_5 29 rfl rfl
theorem im_J4_length_8abf5 : Cond.instanceMethod yJ4_length_8abf5 ∈ TB := TBm_4 118 rfl rfl
theorem ml_J0_1047 : Cond.methodLink RJ0 1047 yJ5_isLatin1_aae02 ∈ TB := TBm_5 30 rfl rfl
theorem gs_J0_38 : Cond.fieldLink RJ0 38 "java/lang/String" "COMPACT_STRINGS" "Z" ∈ TB := TBm_5 67 rfl rfl
theorem fl_J0_1048 : FG RJ0 1048 1 2 .boolean false := ⟨RJ4, TJ4, 4, tyJ4, rfl, by decide, uw_J4, TBm_4 106 rfl rfl, tyJ4_ok, nmJ4, rfl, rfl⟩
theorem uw_J0 : ∀ w ∈ u_ws RJ0 TJ0 4, w ∈ TB := by
  have h : ∀ w ∈ u_ws RJ0 TJ0 4, decide (w ∈ tables_1) = true ∧ goodWord w = true := by decide +kernel
  exact fun w hw => TB_in (List.mem_append_right _ (of_decide_eq_true (h w hw).1)) (h w hw).2
theorem fl_J0_15 : FG RJ0 15 0 1 .byte true := ⟨RJ0, TJ0, 4, tyJ0, rfl, by decide, uw_J0, TBm_5 99 rfl rfl, tyJ0_ok, nmJ0, rfl, rfl⟩
theorem mi_J7_copyOfRange_39247 : MI yJ7_copyOfRange_39247 cJ7_copyOfRange_39247 3 3 (some (.array .byte)) := ⟨TBm_5 33 rfl rfl, ini_0, ne_0, pd_43, by decide⟩
theorem st_J7_copyOfRange_39247 : Cond.static yJ7_copyOfRange_39247 ∈ TB := TBm_5 32 rfl rfl
theorem ml_J0_54 : Cond.methodLink RJ0 54 yJ7_copyOfRange_39247 ∈ TB := TBm_5 31 rfl rfl
theorem fl_J0_9 : FG RJ0 9 0 0 (.array .byte) true := ⟨RJ0, TJ0, 4, tyJ0, rfl, by decide, uw_J0, TBm_5 98 rfl rfl, tyJ0_ok, nmJ0, rfl, rfl⟩
theorem ini_13 : Cond.initialized "java/lang/String" ∈ TB := TBm_1 18 rfl rfl
theorem ne_13 : ("java/lang/String" : String) ≠ "java/lang/invoke/MethodHandle" ∧ ("java/lang/String" : String) ≠ "java/lang/invoke/VarHandle" := by decide +kernel
theorem pd_50 : (parseMethodDescriptor "(Ljava/lang/AbstractStringBuilder;Ljava/lang/Void;)V").map (fun d => d.parameters.length) = some 2 := by decide +kernel
theorem mi_J0_init_db425 : MI yJ0_init_db425 cJ0_init_db425 5 2 none := ⟨TBm_5 22 rfl rfl, ini_13, ne_13, pd_50, by decide⟩
theorem im_J0_init_db425 : Cond.instanceMethod yJ0_init_db425 ∈ TB := TBm_5 21 rfl rfl
theorem ml_J0_489 : Cond.methodLink RJ0 489 yJ0_init_db425 ∈ TB := TBm_5 20 rfl rfl
theorem nw_J4_18 : NW RJ4 18 0 4 [.null, .int (0 : Int32), .int (0 : Int32), .int (0 : Int32)] := ⟨RJ0, TJ0, tyJ0, rfl, uw_J0, tyJ0_ok, TBm_5 15 rfl rfl, TBm_5 16 rfl rfl, TBm_1 18 rfl rfl, fun j hj => by (have : j = 0 ∨ j = 1 ∨ j = 2 ∨ j = 3 := by omega); rcases this with rfl | rfl | rfl | rfl <;> rfl⟩
theorem pd_51 : (parseMethodDescriptor "(Ljava/lang/StringBuilder;)V").map (fun d => d.parameters.length) = some 1 := by decide +kernel
theorem mi_J0_init_81219 : MI yJ0_init_81219 cJ0_init_81219 2 1 none := ⟨TBm_5 19 rfl rfl, ini_13, ne_13, pd_51, by decide⟩
theorem im_J0_init_81219 : Cond.instanceMethod yJ0_init_81219 ∈ TB := TBm_5 18 rfl rfl
theorem ml_J4_137 : Cond.methodLink RJ4 137 yJ0_init_81219 ∈ TB := TBm_5 17 rfl rfl
theorem nw_X4_63 : NW RX4 63 1 4 [.null, .int (0 : Int32), .int (0 : Int32), .int (0 : Int32)] := ⟨RJ4, TJ4, tyJ4, rfl, uw_J4, tyJ4_ok, TBm_4 86 rfl rfl, TBm_4 87 rfl rfl, TBm_1 17 rfl rfl, fun j hj => by (have : j = 0 ∨ j = 1 ∨ j = 2 ∨ j = 3 := by omega); rcases this with rfl | rfl | rfl | rfl <;> rfl⟩
theorem mi_J4_init_da8c8 : MI yJ4_init_da8c8 cJ4_init_da8c8 1 0 none := ⟨TBm_4 90 rfl rfl, ini_12, ne_12, pd_1, by decide⟩
theorem im_J4_init_da8c8 : Cond.instanceMethod yJ4_init_da8c8 ∈ TB := TBm_4 89 rfl rfl
theorem ml_X4_65 : Cond.methodLink RX4 65 yJ4_init_da8c8 ∈ TB := TBm_4 88 rfl rfl
theorem pd_52 : (parseMethodDescriptor "()Ljava/lang/String;").map (fun d => d.parameters.length) = some 0 := by decide +kernel
theorem mi_J4_toString_0e30d : MI yJ4_toString_0e30d cJ4_toString_0e30d 1 0 (some (.object "java/lang/String")) := ⟨TBm_5 14 rfl rfl, ini_12, ne_12, pd_52, by decide⟩
theorem im_J4_toString_0e30d : Cond.instanceMethod yJ4_toString_0e30d ∈ TB := TBm_5 12 rfl rfl
theorem se_J4_toString_0e30d : Cond.selects yJ4_toString_0e30d.cls yJ4_toString_0e30d yJ4_toString_0e30d ∈ TB := TBm_5 13 rfl rfl
theorem ml_X4_76 : Cond.methodLink RX4 76 yJ4_toString_0e30d ∈ TB := TBm_5 11 rfl rfl
theorem se_J4_length_8abf5 : Cond.selects yJ4_length_8abf5.cls yJ4_length_8abf5 yJ4_length_8abf5 ∈ TB := TBm_4 119 rfl rfl
theorem ml_X4_66 : Cond.methodLink RX4 66 yJ4_length_8abf5 ∈ TB := TBm_4 117 rfl rfl
theorem pd_53 : (parseMethodDescriptor "(I)Ljava/lang/StringBuilder;").map (fun d => d.parameters.length) = some 1 := by decide +kernel
theorem mi_J4_append_bf812 : MI yJ4_append_bf812 cJ4_append_bf812 2 1 (some (.object "java/lang/StringBuilder")) := ⟨TBm_4 220 rfl rfl, ini_12, ne_12, pd_53, by decide⟩
theorem im_J4_append_bf812 : Cond.instanceMethod yJ4_append_bf812 ∈ TB := TBm_4 218 rfl rfl
theorem se_J4_append_bf812 : Cond.selects yJ4_append_bf812.cls yJ4_append_bf812 yJ4_append_bf812 ∈ TB := TBm_4 219 rfl rfl
theorem ml_X4_73 : Cond.methodLink RX4 73 yJ4_append_bf812 ∈ TB := TBm_4 217 rfl rfl
theorem pd_54 : (parseMethodDescriptor "(C)Ljava/lang/StringBuilder;").map (fun d => d.parameters.length) = some 1 := by decide +kernel
theorem mi_J4_append_cf468 : MI yJ4_append_cf468 cJ4_append_cf468 2 1 (some (.object "java/lang/StringBuilder")) := ⟨TBm_4 127 rfl rfl, ini_12, ne_12, pd_54, by decide⟩
theorem im_J4_append_cf468 : Cond.instanceMethod yJ4_append_cf468 ∈ TB := TBm_4 125 rfl rfl
theorem se_J4_append_cf468 : Cond.selects yJ4_append_cf468.cls yJ4_append_cf468 yJ4_append_cf468 ∈ TB := TBm_4 126 rfl rfl
theorem ml_X4_69 : Cond.methodLink RX4 69 yJ4_append_cf468 ∈ TB := TBm_4 124 rfl rfl
theorem mi_X4_text : MI yX4_text cX4_text 4 0 (some (.object "java/lang/String")) := ⟨TBm_4 85 rfl rfl, ini_1, ne_1, pd_52, by decide⟩
theorem im_X4_text : Cond.instanceMethod yX4_text ∈ TB := TBm_4 83 rfl rfl
theorem se_X4_text : Cond.selects yX4_text.cls yX4_text yX4_text ∈ TB := TBm_4 84 rfl rfl
theorem ml_X5_204 : Cond.methodLink RX5 204 yX4_text ∈ TB := TBm_4 82 rfl rfl
theorem nw_X7_179 : NW RX7 179 1 4 [.null, .int (0 : Int32), .int (0 : Int32), .int (0 : Int32)] := ⟨RJ4, TJ4, tyJ4, rfl, uw_J4, tyJ4_ok, TBm_6 216 rfl rfl, TBm_4 87 rfl rfl, TBm_1 17 rfl rfl, fun j hj => by (have : j = 0 ∨ j = 1 ∨ j = 2 ∨ j = 3 := by omega); rcases this with rfl | rfl | rfl | rfl <;> rfl⟩
theorem ml_X7_181 : Cond.methodLink RX7 181 yJ4_init_da8c8 ∈ TB := TBm_6 217 rfl rfl
theorem ml_X7_192 : Cond.methodLink RX7 192 yJ4_toString_0e30d ∈ TB := TBm_6 221 rfl rfl
theorem ml_X7_182 : Cond.methodLink RX7 182 yJ4_length_8abf5 ∈ TB := TBm_6 218 rfl rfl
theorem ml_X7_189 : Cond.methodLink RX7 189 yJ4_append_bf812 ∈ TB := TBm_6 220 rfl rfl
theorem ml_X7_185 : Cond.methodLink RX7 185 yJ4_append_cf468 ∈ TB := TBm_6 219 rfl rfl

end MG_33wwords
section MG_33zmath
section AWM
variable {own nm : String} {cc : ByteArray} {nL : Nat} {ret : Option FieldType} {hh : List (Nat × Nat × Nat × Nat)} {X : aX} {d : Nat} {T : Type} {post : T → aO → aW → Prop} {kc ks : Nat} {o : Option T} {pc q : Nat} {lv lv' : List (Nat × Value)} {st : List Value} {ws : aW}
/-- Math.max and Math.min, by the library's contracts -/
theorem aw_mmax {index : Nat} {x y : Int32} (dg : decode cc pc = .ok (.invokestatic index, 3)) (hq : pc + 3 = q) (hw : Cond.methodLink own index Lib.Math.max.name ∈ TB ∧ Cond.static Lib.Math.max.name ∈ TB ∧ Cond.initialized "java/lang/Math" ∈ TB ∧ Cond.code Lib.Math.max.name Lib.Math.max.code 2 (some .int) ∈ TB) (hd : 1 ≤ d) (hst : (st.map fun v => v.category).sum ≤ 8) (K : AW own nm cc nL ret hh X d post kc ks o q lv (.int (if x < y then y else x) :: st) ws) : AW own nm cc nL ret hh X d post kc ks o pc lv (.int y :: .int x :: st) ws := by
  subst hq
  intro z hz p l e R s m args below meth c D TY A H locs cells slots mc ms ls C hK hZ hd1 hd2 hc1 hc2 hc3 hc4 hP hD hS hl0
  obtain ⟨w1, w2, w3, w4⟩ := hw
  exact va_mmax C.1 C.2.1 (C.2.2.1.trans hl0.1.symm) C.2.2.2.2.1 (C.2.2.2.2.2.1 _ w1) (C.2.2.2.2.2.1 _ w2) (C.2.2.2.2.2.1 _ w3) (C.2.2.2.2.2.1 _ w4) (by omega) (by omega) (by omega) (by omega) dg (K z hz p l e R s m args below meth c D TY A H locs cells slots mc ms ls C hK hZ hd1 hd2 hc1 hc2 hc3 hc4 hP hD hS hl0)
theorem aw_mmin {index : Nat} {x y : Int32} (dg : decode cc pc = .ok (.invokestatic index, 3)) (hq : pc + 3 = q) (hw : Cond.methodLink own index Lib.Math.min.name ∈ TB ∧ Cond.static Lib.Math.min.name ∈ TB ∧ Cond.initialized "java/lang/Math" ∈ TB ∧ Cond.code Lib.Math.min.name Lib.Math.min.code 2 (some .int) ∈ TB) (hd : 1 ≤ d) (hst : (st.map fun v => v.category).sum ≤ 8) (K : AW own nm cc nL ret hh X d post kc ks o q lv (.int (if y < x then y else x) :: st) ws) : AW own nm cc nL ret hh X d post kc ks o pc lv (.int y :: .int x :: st) ws := by
  subst hq
  intro z hz p l e R s m args below meth c D TY A H locs cells slots mc ms ls C hK hZ hd1 hd2 hc1 hc2 hc3 hc4 hP hD hS hl0
  obtain ⟨w1, w2, w3, w4⟩ := hw
  exact va_mmin C.1 C.2.1 (C.2.2.1.trans hl0.1.symm) C.2.2.2.2.1 (C.2.2.2.2.2.1 _ w1) (C.2.2.2.2.2.1 _ w2) (C.2.2.2.2.2.1 _ w3) (C.2.2.2.2.2.1 _ w4) (by omega) (by omega) (by omega) (by omega) dg (K z hz p l e R s m args below meth c D TY A H locs cells slots mc ms ls C hK hZ hd1 hd2 hc1 hc2 hc3 hc4 hP hD hS hl0)
end AWM

end MG_33zmath
section MG_34jdk
def fJ_newLength (N K : Nat) (p0 : Int32) (p1 : Int32) (p2 : Int32) : Option (Int32) :=
  (if (p0 + (if p1 < p2 then p2 else p1)) ≤ (0 : Int32) then none else (if (2147483639 : Int32) < (p0 + (if p1 < p2 then p2 else p1)) then none else (some (p0 + (if p1 < p2 then p2 else p1)))))
set_option maxHeartbeats 4000000 in
set_option maxRecDepth 100000 in
theorem ok_J_newLength {N K : Nat} {p0 : Int32} {p1 : Int32} {p2 : Int32} {xr : Int32} (hE : fJ_newLength N K p0 p1 p2 = some xr) : OkM yJ8_newLength_cabcc (.code yJ8_newLength_cabcc cJ8_newLength_cabcc 4 (some .int)) (1) 0 0 [.int p0, .int p1, .int p2] [] ((PN (U := Int32) (fun zz _ => some (.int zz)) (fun zz ad => [])) xr) := by
  refine ok_of (by decide) (Nat.le_of_ble_eq_true rfl) hE ?_
  refine aw_locals (lv' := [(0, .int p0), (1, .int p1), (2, .int p2)]) [0, 1, 2] rfl ?_
  refine aw_iload_n (q := 1) gdJ8_newLength_cabcc_0.1 rfl 0 rfl ?_
  refine aw_iload_n (q := 2) gdJ8_newLength_cabcc_0.2.1 rfl 1 rfl ?_
  refine aw_iload_n (q := 3) gdJ8_newLength_cabcc_0.2.2.1 rfl 2 rfl ?_
  refine aw_mmax (q := 6) gdJ8_newLength_cabcc_0.2.2.2.1 rfl ⟨mm_J8_194, ms_max, mi_Math, mc_max⟩ (by omega) (Nat.le_of_ble_eq_true rfl) ?_
  refine aw_iadd (q := 7) gdJ8_newLength_cabcc_0.2.2.2.2.1 rfl ?_
  refine aw_istore_n (q := 8) (lv' := [(3, .int (p0 + (if p1 < p2 then p2 else p1))), (0, .int p0), (1, .int p1), (2, .int p2)]) gdJ8_newLength_cabcc_0.2.2.2.2.2.1 rfl (by decide) rfl ?_
  refine aw_iconst (q := 9) (v := 0) gdJ8_newLength_cabcc_0.2.2.2.2.2.2.1 rfl (by decide) ?_
  refine aw_iload_n (q := 10) gdJ8_newLength_cabcc_0.2.2.2.2.2.2.2 rfl 0 rfl ?_
  refine aw_icmp_ge (tgt := 21) (q := 13) gdJ8_newLength_cabcc_10.1 (by decide) rfl (fun h_10 => ?_) (fun h_10 => ?_)
  · refine aw_iload_n (q := 22) gdJ8_newLength_cabcc_10.2.2.2.2.2.2.1 rfl 1 rfl ?_
    refine aw_iload_n (q := 23) gdJ8_newLength_cabcc_10.2.2.2.2.2.2.2 rfl 2 rfl ?_
    exact aw_none
  · refine aw_iload_n (q := 14) gdJ8_newLength_cabcc_10.2.1 rfl 0 rfl ?_
    refine aw_ldc (q := 16) gdJ8_newLength_cabcc_10.2.2.1 rfl co_J8_200 ?_
    refine aw_icmp_gt (tgt := 21) (q := 19) gdJ8_newLength_cabcc_10.2.2.2.1 (by decide) rfl (fun h_16 => ?_) (fun h_16 => ?_)
    · refine aw_iload_n (q := 22) gdJ8_newLength_cabcc_10.2.2.2.2.2.2.1 rfl 1 rfl ?_
      refine aw_iload_n (q := 23) gdJ8_newLength_cabcc_10.2.2.2.2.2.2.2 rfl 2 rfl ?_
      exact aw_none
    · refine aw_iload_n (q := 20) gdJ8_newLength_cabcc_10.2.2.2.2.1 rfl 0 rfl ?_
      exact aw_ireturn (w := []) [] gdJ8_newLength_cabcc_10.2.2.2.2.2.1 rfl rfl rfl rfl (PN.mk (fun _ => 0) rfl rfl)
def fJ_size_16 (N K : Nat) (p0 : Int32) : Nat → Int32 → Int32 → Int32 → Option (Int32)
  | 0, _, _, _ => none
  | fu + 1, l0, l2, l3 =>
    (if (10 : Int32) ≤ l3 then (some ((10 : Int32) + (1 : Int32))) else (if l0 ≤ l2 then fJ_size_16 N K p0  fu l0 ((10 : Int32) * l2) (l3 + (1 : Int32)) else (some (l3 + (1 : Int32)))))
set_option maxHeartbeats 4000000 in
set_option maxRecDepth 100000 in
theorem tJ_size_16 {N K : Nat} {p0 : Int32} : ∀ (fu : Nat) (l0 : Int32) (l2 : Int32) (l3 : Int32), AW RJ6 "stringSize" cJ6_stringSize_0f7a4 4 (some .int) [] (fun _ _ => True) (0) (PN (U := Int32) (fun zz _ => some (.int zz)) (fun zz ad => [])) 0 0 (fJ_size_16 N K p0  fu l0 l2 l3) 16 [(0, .int l0), (1, .int (1 : Int32)), (2, .int l2), (3, .int l3)] [] [] := by
  intro fu
  induction fu with
  | zero => intro l0 l2 l3; exact aw_none
  | succ fu ih =>
    intro l0 l2 l3
    refine aw_iload_n (q := 17) gdJ6_stringSize_0f7a4_10.2.2.2.2.2.1 rfl 3 rfl ?_
    refine aw_bipush (q := 19) (v := 10) gdJ6_stringSize_0f7a4_10.2.2.2.2.2.2.1 rfl (by decide) ?_
    refine aw_icmp_ge (tgt := 42) (q := 22) gdJ6_stringSize_0f7a4_10.2.2.2.2.2.2.2 (by decide) rfl (fun h_19 => ?_) (fun h_19 => ?_)
    · refine aw_bipush (q := 44) (v := 10) gdJ6_stringSize_0f7a4_33.2.2.2.2.2.1 rfl (by decide) ?_
      refine aw_iload_n (q := 45) gdJ6_stringSize_0f7a4_33.2.2.2.2.2.2.1 rfl 1 rfl ?_
      refine aw_iadd (q := 46) gdJ6_stringSize_0f7a4_33.2.2.2.2.2.2.2 rfl ?_
      exact aw_ireturn (w := []) [] dJ6_stringSize_0f7a4_46 rfl rfl rfl rfl (PN.mk (fun _ => 0) rfl rfl)
    · refine aw_iload_n (q := 23) gdJ6_stringSize_0f7a4_22.1 rfl 0 rfl ?_
      refine aw_iload_n (q := 24) gdJ6_stringSize_0f7a4_22.2.1 rfl 2 rfl ?_
      refine aw_icmp_le (tgt := 31) (q := 27) gdJ6_stringSize_0f7a4_22.2.2.1 (by decide) rfl (fun h_24 => ?_) (fun h_24 => ?_)
      · refine aw_bipush (q := 33) (v := 10) gdJ6_stringSize_0f7a4_22.2.2.2.2.2.2.2 rfl (by decide) ?_
        refine aw_iload_n (q := 34) gdJ6_stringSize_0f7a4_33.1 rfl 2 rfl ?_
        refine aw_imul (q := 35) gdJ6_stringSize_0f7a4_33.2.1 rfl ?_
        refine aw_istore_n (q := 36) (lv' := [(2, .int ((10 : Int32) * l2)), (0, .int l0), (1, .int (1 : Int32)), (3, .int l3)]) gdJ6_stringSize_0f7a4_33.2.2.1 rfl (by decide) rfl ?_
        refine aw_iinc (q := 39) (v := (l3 + (1 : Int32))) (lv' := [(3, .int (l3 + (1 : Int32))), (2, .int ((10 : Int32) * l2)), (0, .int l0), (1, .int (1 : Int32))]) gdJ6_stringSize_0f7a4_33.2.2.2.1 rfl 3 rfl rfl (by decide) rfl ?_
        refine aw_goto (tgt := 16) gdJ6_stringSize_0f7a4_33.2.2.2.2.1 (by decide) ?_
        refine aw_locals (lv' := [(0, .int l0), (1, .int (1 : Int32)), (2, .int ((10 : Int32) * l2)), (3, .int (l3 + (1 : Int32)))]) [2, 3, 1, 0] rfl ?_
        exact ih _ _ _
      · refine aw_iload_n (q := 28) gdJ6_stringSize_0f7a4_22.2.2.2.1 rfl 3 rfl ?_
        refine aw_iload_n (q := 29) gdJ6_stringSize_0f7a4_22.2.2.2.2.1 rfl 1 rfl ?_
        refine aw_iadd (q := 30) gdJ6_stringSize_0f7a4_22.2.2.2.2.2.1 rfl ?_
        exact aw_ireturn (w := []) [] gdJ6_stringSize_0f7a4_22.2.2.2.2.2.2.1 rfl rfl rfl rfl (PN.mk (fun _ => 0) rfl rfl)
def fJ_size_16v (N K : Nat) (p0 : Int32) : Nat → Int32 → Int32 → Int32 → Option (Int32)
  | 0, _, _, _ => none
  | fu + 1, l0, l2, l3 =>
    (if (10 : Int32) ≤ l3 then (some ((10 : Int32) + (0 : Int32))) else (if l0 ≤ l2 then fJ_size_16v N K p0  fu l0 ((10 : Int32) * l2) (l3 + (1 : Int32)) else (some (l3 + (0 : Int32)))))
set_option maxHeartbeats 4000000 in
set_option maxRecDepth 100000 in
theorem tJ_size_16v {N K : Nat} {p0 : Int32} : ∀ (fu : Nat) (l0 : Int32) (l2 : Int32) (l3 : Int32), AW RJ6 "stringSize" cJ6_stringSize_0f7a4 4 (some .int) [] (fun _ _ => True) (0) (PN (U := Int32) (fun zz _ => some (.int zz)) (fun zz ad => [])) 0 0 (fJ_size_16v N K p0  fu l0 l2 l3) 16 [(0, .int l0), (1, .int (0 : Int32)), (2, .int l2), (3, .int l3)] [] [] := by
  intro fu
  induction fu with
  | zero => intro l0 l2 l3; exact aw_none
  | succ fu ih =>
    intro l0 l2 l3
    refine aw_iload_n (q := 17) gdJ6_stringSize_0f7a4_10.2.2.2.2.2.1 rfl 3 rfl ?_
    refine aw_bipush (q := 19) (v := 10) gdJ6_stringSize_0f7a4_10.2.2.2.2.2.2.1 rfl (by decide) ?_
    refine aw_icmp_ge (tgt := 42) (q := 22) gdJ6_stringSize_0f7a4_10.2.2.2.2.2.2.2 (by decide) rfl (fun h_19 => ?_) (fun h_19 => ?_)
    · refine aw_bipush (q := 44) (v := 10) gdJ6_stringSize_0f7a4_33.2.2.2.2.2.1 rfl (by decide) ?_
      refine aw_iload_n (q := 45) gdJ6_stringSize_0f7a4_33.2.2.2.2.2.2.1 rfl 1 rfl ?_
      refine aw_iadd (q := 46) gdJ6_stringSize_0f7a4_33.2.2.2.2.2.2.2 rfl ?_
      exact aw_ireturn (w := []) [] dJ6_stringSize_0f7a4_46 rfl rfl rfl rfl (PN.mk (fun _ => 0) rfl rfl)
    · refine aw_iload_n (q := 23) gdJ6_stringSize_0f7a4_22.1 rfl 0 rfl ?_
      refine aw_iload_n (q := 24) gdJ6_stringSize_0f7a4_22.2.1 rfl 2 rfl ?_
      refine aw_icmp_le (tgt := 31) (q := 27) gdJ6_stringSize_0f7a4_22.2.2.1 (by decide) rfl (fun h_24 => ?_) (fun h_24 => ?_)
      · refine aw_bipush (q := 33) (v := 10) gdJ6_stringSize_0f7a4_22.2.2.2.2.2.2.2 rfl (by decide) ?_
        refine aw_iload_n (q := 34) gdJ6_stringSize_0f7a4_33.1 rfl 2 rfl ?_
        refine aw_imul (q := 35) gdJ6_stringSize_0f7a4_33.2.1 rfl ?_
        refine aw_istore_n (q := 36) (lv' := [(2, .int ((10 : Int32) * l2)), (0, .int l0), (1, .int (0 : Int32)), (3, .int l3)]) gdJ6_stringSize_0f7a4_33.2.2.1 rfl (by decide) rfl ?_
        refine aw_iinc (q := 39) (v := (l3 + (1 : Int32))) (lv' := [(3, .int (l3 + (1 : Int32))), (2, .int ((10 : Int32) * l2)), (0, .int l0), (1, .int (0 : Int32))]) gdJ6_stringSize_0f7a4_33.2.2.2.1 rfl 3 rfl rfl (by decide) rfl ?_
        refine aw_goto (tgt := 16) gdJ6_stringSize_0f7a4_33.2.2.2.2.1 (by decide) ?_
        refine aw_locals (lv' := [(0, .int l0), (1, .int (0 : Int32)), (2, .int ((10 : Int32) * l2)), (3, .int (l3 + (1 : Int32)))]) [2, 3, 1, 0] rfl ?_
        exact ih _ _ _
      · refine aw_iload_n (q := 28) gdJ6_stringSize_0f7a4_22.2.2.2.1 rfl 3 rfl ?_
        refine aw_iload_n (q := 29) gdJ6_stringSize_0f7a4_22.2.2.2.2.1 rfl 1 rfl ?_
        refine aw_iadd (q := 30) gdJ6_stringSize_0f7a4_22.2.2.2.2.2.1 rfl ?_
        exact aw_ireturn (w := []) [] gdJ6_stringSize_0f7a4_22.2.2.2.2.2.2.1 rfl rfl rfl rfl (PN.mk (fun _ => 0) rfl rfl)
def fJ_size (N K : Nat) (p0 : Int32) : Option (Int32) :=
  (if p0 < 0 then fJ_size_16 N K p0  N p0 (-10 : Int32) (1 : Int32) else fJ_size_16v N K p0  N (-p0) (-10 : Int32) (1 : Int32))
set_option maxHeartbeats 4000000 in
set_option maxRecDepth 100000 in
theorem ok_J_size {N K : Nat} {p0 : Int32} {xr : Int32} (hE : fJ_size N K p0 = some xr) : OkM yJ6_stringSize_0f7a4 (.code yJ6_stringSize_0f7a4 cJ6_stringSize_0f7a4 4 (some .int)) (0) 0 0 [.int p0] [] ((PN (U := Int32) (fun zz _ => some (.int zz)) (fun zz ad => [])) xr) := by
  refine ok_of (by decide) (Nat.le_of_ble_eq_true rfl) hE ?_
  refine aw_locals (lv' := [(0, .int p0)]) [0] rfl ?_
  refine aw_iconst (q := 1) (v := 1) gdJ6_stringSize_0f7a4_0.1 rfl (by decide) ?_
  refine aw_istore_n (q := 2) (lv' := [(1, .int (1 : Int32)), (0, .int p0)]) gdJ6_stringSize_0f7a4_0.2.1 rfl (by decide) rfl ?_
  refine aw_iload_n (q := 3) gdJ6_stringSize_0f7a4_0.2.2.1 rfl 1 rfl ?_
  refine aw_if_lt (tgt := 11) (q := 6) gdJ6_stringSize_0f7a4_0.2.2.2.1 (by decide) rfl (fun h_3 => ?_) (fun h_3 => ?_)
  · refine aw_bipush (q := 13) (v := (-10)) gdJ6_stringSize_0f7a4_10.2.1 rfl (by decide) ?_
    refine aw_istore_n (q := 14) (lv' := [(2, .int (-10 : Int32)), (1, .int (1 : Int32)), (0, .int p0)]) gdJ6_stringSize_0f7a4_10.2.2.1 rfl (by decide) rfl ?_
    refine aw_iconst (q := 15) (v := 1) gdJ6_stringSize_0f7a4_10.2.2.2.1 rfl (by decide) ?_
    refine aw_istore_n (q := 16) (lv' := [(3, .int (1 : Int32)), (2, .int (-10 : Int32)), (1, .int (1 : Int32)), (0, .int p0)]) gdJ6_stringSize_0f7a4_10.2.2.2.2.1 rfl (by decide) rfl ?_
    refine aw_locals (lv' := [(0, .int p0), (1, .int (1 : Int32)), (2, .int (-10 : Int32)), (3, .int (1 : Int32))]) [3, 2, 1, 0] rfl ?_
    exact tJ_size_16  N _ _ _
  · refine aw_iconst (q := 7) (v := 0) gdJ6_stringSize_0f7a4_0.2.2.2.2.1 rfl (by decide) ?_
    refine aw_istore_n (q := 8) (lv' := [(1, .int (0 : Int32)), (0, .int p0)]) gdJ6_stringSize_0f7a4_0.2.2.2.2.2.1 rfl (by decide) rfl ?_
    refine aw_iload_n (q := 9) gdJ6_stringSize_0f7a4_0.2.2.2.2.2.2.1 rfl 1 rfl ?_
    refine aw_ineg (q := 10) gdJ6_stringSize_0f7a4_0.2.2.2.2.2.2.2 rfl ?_
    refine aw_istore_n (q := 11) (lv' := [(0, .int (-p0)), (1, .int (0 : Int32))]) gdJ6_stringSize_0f7a4_10.1 rfl (by decide) rfl ?_
    refine aw_bipush (q := 13) (v := (-10)) gdJ6_stringSize_0f7a4_10.2.1 rfl (by decide) ?_
    refine aw_istore_n (q := 14) (lv' := [(2, .int (-10 : Int32)), (0, .int (-p0)), (1, .int (0 : Int32))]) gdJ6_stringSize_0f7a4_10.2.2.1 rfl (by decide) rfl ?_
    refine aw_iconst (q := 15) (v := 1) gdJ6_stringSize_0f7a4_10.2.2.2.1 rfl (by decide) ?_
    refine aw_istore_n (q := 16) (lv' := [(3, .int (1 : Int32)), (2, .int (-10 : Int32)), (0, .int (-p0)), (1, .int (0 : Int32))]) gdJ6_stringSize_0f7a4_10.2.2.2.2.1 rfl (by decide) rfl ?_
    refine aw_locals (lv' := [(0, .int (-p0)), (1, .int (0 : Int32)), (2, .int (-10 : Int32)), (3, .int (1 : Int32))]) [2, 3, 1, 0] rfl ?_
    exact tJ_size_16v  N _ _ _
def fJ_canEncode (N K : Nat) (p0 : Int32) : Option (Int32) :=
  (if (255 : Int32) < p0 then (some (0 : Int32)) else (some (1 : Int32)))
set_option maxHeartbeats 4000000 in
set_option maxRecDepth 100000 in
theorem ok_J_canEncode {N K : Nat} {p0 : Int32} {xr : Int32} (hE : fJ_canEncode N K p0 = some xr) : OkM yJ1_canEncode_fc78d (.code yJ1_canEncode_fc78d cJ1_canEncode_fc78d 1 (some .boolean)) (0) 0 0 [.int p0] [] ((PN (U := Int32) (fun zz _ => some (.int zz)) (fun zz ad => [])) xr) := by
  refine ok_of (by decide) (Nat.le_of_ble_eq_true rfl) hE ?_
  refine aw_locals (lv' := [(0, .int p0)]) [0] rfl ?_
  refine aw_iload_n (q := 1) gdJ1_canEncode_fc78d_0.1 rfl 0 rfl ?_
  refine aw_sipush (q := 4) (v := 255) gdJ1_canEncode_fc78d_0.2.1 rfl (by decide) ?_
  refine aw_icmp_gt (tgt := 11) (q := 7) gdJ1_canEncode_fc78d_0.2.2.1 (by decide) rfl (fun h_4 => ?_) (fun h_4 => ?_)
  · refine aw_iconst (q := 12) (v := 0) gdJ1_canEncode_fc78d_0.2.2.2.2.2.1 rfl (by decide) ?_
    exact aw_ireturn (w := []) [] gdJ1_canEncode_fc78d_0.2.2.2.2.2.2 rfl rfl rfl rfl (PN.mk (fun _ => 0) rfl rfl)
  · refine aw_iconst (q := 8) (v := 1) gdJ1_canEncode_fc78d_0.2.2.2.1 rfl (by decide) ?_
    refine aw_goto (tgt := 12) gdJ1_canEncode_fc78d_0.2.2.2.2.1 (by decide) ?_
    exact aw_ireturn (w := []) [] gdJ1_canEncode_fc78d_0.2.2.2.2.2.2 rfl rfl rfl rfl (PN.mk (fun _ => 0) rfl rfl)
def fJ_len (N K : Nat) (cnt : Int32) (n : Nat) (f : Nat → Int32) : Option (Int32) :=
  (some cnt)
set_option maxHeartbeats 4000000 in
set_option maxRecDepth 100000 in
theorem ok_J_len {N K : Nat} {b v : Nat} {cnt : Int32} {n : Nat} {f : Nat → Int32} {xr : Int32} (hE : fJ_len N K cnt n f = some xr) : OkM yJ5_length_8abf5 (.code yJ5_length_8abf5 cJ5_length_8abf5 1 (some .int)) (0) 0 0 [.ref b] [(b, .inr (1, [.ref v, .int (0 : Int32), .int (0 : Int32), .int cnt])), (v, .inl (5, n, .inl f))] ((PN (U := Int32) (fun zz _ => some (.int zz)) (fun zz ad => [(b, .inr (1, [.ref v, .int (0 : Int32), .int (0 : Int32), .int cnt])), (v, .inl (5, n, .inl f))])) xr) := by
  refine ok_of (by decide) (Nat.le_of_ble_eq_true rfl) hE ?_
  refine aw_locals (lv' := [(0, .ref b)]) [0] rfl ?_
  refine aw_aload_n (q := 1) gdJ5_length_8abf5_0.1 rfl 0 rfl ?_
  refine aw_get (q := 4) gdJ5_length_8abf5_0.2.1 rfl fl_J5_79 0 rfl rfl ?_
  exact aw_ireturn (w := [(b, .inr (1, [.ref v, .int (0 : Int32), .int (0 : Int32), .int cnt])), (v, .inl (5, n, .inl f))]) [0, 1] gdJ5_length_8abf5_0.2.2 rfl rfl rfl rfl (PN.mk (fun _ => 0) rfl rfl)
def fJ_length (N K : Nat) (cnt : Int32) (n : Nat) (f : Nat → Int32) : Option (Int32) :=
  ((fJ_len N K cnt n f).bind (fun x1 => (some x1)))
set_option maxHeartbeats 4000000 in
set_option maxRecDepth 100000 in
theorem ok_J_length {N K : Nat} {b v : Nat} {cnt : Int32} {n : Nat} {f : Nat → Int32} {xr : Int32} (hE : fJ_length N K cnt n f = some xr) : OkM yJ4_length_8abf5 (.code yJ4_length_8abf5 cJ4_length_8abf5 1 (some .int)) (1) 0 0 [.ref b] [(b, .inr (1, [.ref v, .int (0 : Int32), .int (0 : Int32), .int cnt])), (v, .inl (5, n, .inl f))] ((PN (U := Int32) (fun zz _ => some (.int zz)) (fun zz ad => [(b, .inr (1, [.ref v, .int (0 : Int32), .int (0 : Int32), .int cnt])), (v, .inl (5, n, .inl f))])) xr) := by
  refine ok_of (by decide) (Nat.le_of_ble_eq_true rfl) hE ?_
  refine aw_locals (lv' := [(0, .ref b)]) [0] rfl ?_
  refine aw_aload_n (q := 1) gdJ4_length_8abf5_0.1 rfl 0 rfl ?_
  refine aw_call (q := 4) (kc1 := 0) (ks1 := 0) (wc := [(b, .inr (1, [.ref v, .int (0 : Int32), .int (0 : Int32), .int cnt])), (v, .inl (5, n, .inl f))]) (wr := []) (st1 := fun x1 g1 => [.int x1]) (ws1 := fun x1 g1 => [(b, .inr (1, [.ref v, .int (0 : Int32), .int (0 : Int32), .int cnt])), (v, .inl (5, n, .inl f))]) (As := [.ref b]) [0, 1] [] (fun _ => runSU (q0 := 0) gdJ4_length_8abf5_0.2.1 mi_J5_length_8abf5 (by decide) im_J5_length_8abf5 sm_J5_length_8abf5 sp_J4_J5 ml_J4_343 (by omega) rfl (Nat.le_of_ble_eq_true rfl) rfl rfl rfl) (fun x9 h9 => ok_J_len h9) rfl rfl rfl rfl rfl (by decide +kernel) (by omega) (by omega) (fun _ _ => rfl) (fun _ _ => rfl) (fun x1 g1 => ?_)
  exact aw_ireturn (w := [(b, .inr (1, [.ref v, .int (0 : Int32), .int (0 : Int32), .int cnt])), (v, .inl (5, n, .inl f))]) [0, 1] gdJ4_length_8abf5_0.2.2 rfl rfl rfl rfl (PN.mk (fun _ => 0) rfl rfl)
def fJ_isLatin1 (N K : Nat) (cnt : Int32) (n : Nat) (f : Nat → Int32) : Option (Int32) :=
  (some (1 : Int32))
set_option maxHeartbeats 4000000 in
set_option maxRecDepth 100000 in
theorem ok_J_isLatin1 {N K : Nat} {b v : Nat} {cnt : Int32} {n : Nat} {f : Nat → Int32} {xr : Int32} (hE : fJ_isLatin1 N K cnt n f = some xr) : OkM yJ5_isLatin1_aae02 (.code yJ5_isLatin1_aae02 cJ5_isLatin1_aae02 1 (some .boolean)) (0) 0 0 [.ref b] [(b, .inr (1, [.ref v, .int (0 : Int32), .int (0 : Int32), .int cnt])), (v, .inl (5, n, .inl f))] ((PN (U := Int32) (fun zz _ => some (.int zz)) (fun zz ad => [(b, .inr (1, [.ref v, .int (0 : Int32), .int (0 : Int32), .int cnt])), (v, .inl (5, n, .inl f))])) xr) := by
  refine ok_of (by decide) (Nat.le_of_ble_eq_true rfl) hE ?_
  refine aw_locals (lv' := [(0, .ref b)]) [0] rfl ?_
  refine aw_getsC (q := 3) gdJ5_isLatin1_aae02_0.1 rfl gs_J5_18 ?_
  refine aw_if_eqF (q := 6) (off := 14) (tgt := 17) gdJ5_isLatin1_aae02_0.2.1 (by decide) rfl (by decide) ?_
  refine aw_aload_n (q := 7) gdJ5_isLatin1_aae02_0.2.2.1 rfl 0 rfl ?_
  refine aw_get (q := 10) gdJ5_isLatin1_aae02_0.2.2.2.1 rfl fl_J5_22 0 rfl rfl ?_
  refine aw_if_neF (q := 13) (off := 7) (tgt := 17) gdJ5_isLatin1_aae02_0.2.2.2.2.1 (by decide) rfl (by decide) ?_
  refine aw_iconst (q := 14) (v := 1) gdJ5_isLatin1_aae02_0.2.2.2.2.2.1 rfl (by decide) ?_
  refine aw_goto (tgt := 18) gdJ5_isLatin1_aae02_0.2.2.2.2.2.2.1 (by decide) ?_
  exact aw_ireturn (w := [(b, .inr (1, [.ref v, .int (0 : Int32), .int (0 : Int32), .int cnt])), (v, .inl (5, n, .inl f))]) [0, 1] gdJ5_isLatin1_aae02_0.2.2.2.2.2.2.2 rfl rfl rfl rfl (PN.mk (fun _ => 0) rfl rfl)
def fJ_getValue (N K : Nat) (cnt : Int32) (n : Nat) (f : Nat → Int32) : Option (Unit) :=
  (some ())
set_option maxHeartbeats 4000000 in
set_option maxRecDepth 100000 in
theorem ok_J_getValue {N K : Nat} {b v : Nat} {cnt : Int32} {n : Nat} {f : Nat → Int32} {xr : Unit} (hE : fJ_getValue N K cnt n f = some xr) : OkM yJ5_getValue_6d5f1 (.code yJ5_getValue_6d5f1 cJ5_getValue_6d5f1 1 (some (.array .byte))) (0) 0 0 [.ref b] [(b, .inr (1, [.ref v, .int (0 : Int32), .int (0 : Int32), .int cnt])), (v, .inl (5, n, .inl f))] ((PN (U := Unit) (fun _ _ => some (.ref v)) (fun zz ad => [(b, .inr (1, [.ref v, .int (0 : Int32), .int (0 : Int32), .int cnt])), (v, .inl (5, n, .inl f))])) xr) := by
  refine ok_of (by decide) (Nat.le_of_ble_eq_true rfl) hE ?_
  refine aw_locals (lv' := [(0, .ref b)]) [0] rfl ?_
  refine aw_aload_n (q := 1) gdJ5_getValue_6d5f1_0.1 rfl 0 rfl ?_
  refine aw_get (q := 4) gdJ5_getValue_6d5f1_0.2.1 rfl fl_J5_15 0 rfl rfl ?_
  exact aw_areturn (w := [(b, .inr (1, [.ref v, .int (0 : Int32), .int (0 : Int32), .int cnt])), (v, .inl (5, n, .inl f))]) [0, 1] gdJ5_getValue_6d5f1_0.2.2 rfl (Or.inr ⟨_, rfl⟩) rfl rfl (PN.mk (fun _ => 0) rfl rfl)
def fJ_copyOf (N K : Nat) (n : Nat) (f : Nat → Int32) (p0 : Int32) : Option (Nat × (Nat → Int32)) :=
  (if p0 = (Int32.ofNat n) then (if 80 < n ∨ ¬ ∀ i, i < n → fits .byte (.int (f i)) = true then none else (some (n, f))) else (if p0 < 0 ∨ 80 < p0.toNatClampNeg then none else (if (0 : Int32) < 0 ∨ (0 : Int32) < 0 ∨ (if p0 < (Int32.ofNat n) then p0 else (Int32.ofNat n)) < 0 ∨ n < (0 : Int32).toNatClampNeg + (if p0 < (Int32.ofNat n) then p0 else (Int32.ofNat n)).toNatClampNeg ∨ p0.toNatClampNeg < (0 : Int32).toNatClampNeg + (if p0 < (Int32.ofNat n) then p0 else (Int32.ofNat n)).toNatClampNeg ∨ ¬ ∀ i, i < (if p0 < (Int32.ofNat n) then p0 else (Int32.ofNat n)).toNatClampNeg → fits .byte (.int (f ((0 : Int32).toNatClampNeg + i))) = true then none else (some (p0.toNatClampNeg, (va_cpy f (fun _ => 0) (0 : Int32).toNatClampNeg (0 : Int32).toNatClampNeg (if p0 < (Int32.ofNat n) then p0 else (Int32.ofNat n)).toNatClampNeg))))))
set_option maxHeartbeats 4000000 in
set_option maxRecDepth 100000 in
theorem ok_J_copyOf {N K : Nat} {a : Nat} {n : Nat} {f : Nat → Int32} {p0 : Int32} {xr : Nat × (Nat → Int32)} (hE : fJ_copyOf N K n f p0 = some xr) : OkM yJ7_copyOf_9075b (.code yJ7_copyOf_9075b cJ7_copyOf_9075b 3 (some (.array .byte))) (2) 1 80 [.ref a, .int p0] [(a, .inl (5, n, .inl f))] ((PN (U := Nat × (Nat → Int32)) (fun _ ad => some (.ref (ad 0))) (fun zz ad => [(a, .inl (5, n, .inl f)), ((ad 0), .inl (5, zz.1, .inl zz.2))])) xr) := by
  refine ok_of (by decide) (Nat.le_of_ble_eq_true rfl) hE ?_
  refine aw_locals (lv' := [(0, .ref a), (1, .int p0)]) [0, 1] rfl ?_
  refine aw_iload_n (q := 1) gdJ7_copyOf_9075b_0.1 rfl 1 rfl ?_
  refine aw_aload_n (q := 2) gdJ7_copyOf_9075b_0.2.1 rfl 0 rfl ?_
  refine aw_alen (q := 3) (v := (Int32.ofNat n)) gdJ7_copyOf_9075b_0.2.2.1 rfl 0 rfl (by decide) rfl ?_
  refine aw_icmp_ne (tgt := 14) (q := 6) gdJ7_copyOf_9075b_0.2.2.2.1 (by decide) rfl (fun h_3 => ?_) (fun h_3 => ?_)
  · refine aw_iload_n (q := 15) gdJ7_copyOf_9075b_14.1 rfl 1 rfl ?_
    refine aw_newB (q := 17) (B := 80) (kc' := 0) (ks' := 0) (ws' := fun r15 => [(a, .inl (5, n, .inl f)), (r15, .inl (5, p0.toNatClampNeg, .inl (fun _ => 0)))]) gdJ7_copyOf_9075b_14.2.1 rfl ac_byte (by decide) (by omega) (by omega) (fun _ => rfl) (fun r15 => ?_)
    refine aw_astore_n (q := 18) (lv' := [(2, .ref r15), (0, .ref a), (1, .int p0)]) gdJ7_copyOf_9075b_14.2.2.1 rfl (by decide) rfl ?_
    refine aw_aload_n (q := 19) gdJ7_copyOf_9075b_14.2.2.2.1 rfl 1 rfl ?_
    refine aw_iconst (q := 20) (v := 0) gdJ7_copyOf_9075b_14.2.2.2.2.1 rfl (by decide) ?_
    refine aw_aload_n (q := 21) gdJ7_copyOf_9075b_14.2.2.2.2.2.1 rfl 0 rfl ?_
    refine aw_iconst (q := 22) (v := 0) gdJ7_copyOf_9075b_14.2.2.2.2.2.2.1 rfl (by decide) ?_
    refine aw_aload_n (q := 23) gdJ7_copyOf_9075b_14.2.2.2.2.2.2.2 rfl 1 rfl ?_
    refine aw_alen (q := 24) (v := (Int32.ofNat n)) gdJ7_copyOf_9075b_23.1 rfl 0 rfl (by decide) rfl ?_
    refine aw_iload_n (q := 25) gdJ7_copyOf_9075b_23.2.1 rfl 2 rfl ?_
    refine aw_mmin (q := 28) gdJ7_copyOf_9075b_23.2.2.1 rfl ⟨mm_J7_304, ms_min, mi_Math, mc_min⟩ (by omega) (Nat.le_of_ble_eq_true rfl) ?_
    refine aw_copyB (q := 31) (ws' := [(a, .inl (5, n, .inl f)), (r15, .inl (5, p0.toNatClampNeg, .inl (va_cpy f (fun _ => 0) (0 : Int32).toNatClampNeg (0 : Int32).toNatClampNeg (if p0 < (Int32.ofNat n) then p0 else (Int32.ofNat n)).toNatClampNeg)))]) gdJ7_copyOf_9075b_23.2.2.2.1 rfl ml_J7_150 w_ac (by omega) (Nat.le_of_ble_eq_true rfl) 0 1 rfl rfl rfl ?_
    refine aw_aload_n (q := 32) gdJ7_copyOf_9075b_23.2.2.2.2.1 rfl 0 rfl ?_
    exact aw_areturn (w := [(a, .inl (5, n, .inl f)), (r15, .inl (5, p0.toNatClampNeg, .inl (va_cpy f (fun _ => 0) (0 : Int32).toNatClampNeg (0 : Int32).toNatClampNeg (if p0 < (Int32.ofNat n) then p0 else (Int32.ofNat n)).toNatClampNeg)))]) [0, 1] gdJ7_copyOf_9075b_23.2.2.2.2.2 rfl (Or.inr ⟨_, rfl⟩) rfl rfl (PN.mk (fun j => if j = 0 then r15 else 0) rfl rfl)
  · refine aw_aload_n (q := 7) gdJ7_copyOf_9075b_0.2.2.2.2.1 rfl 0 rfl ?_
    refine aw_cloneB (q := 13) (B := 80) (kc' := 0) (ks' := 0) (ws' := fun r7 => [(a, .inl (5, n, .inl f)), (r7, .inl (5, n, .inl f))]) gdJ7_copyOf_9075b_0.2.2.2.2.2.1 gdJ7_copyOf_9075b_0.2.2.2.2.2.2.1 rfl w_cl (by omega) (Nat.le_of_ble_eq_true rfl) 0 rfl (by omega) (by omega) (fun _ => rfl) (fun r7 => ?_)
    exact aw_areturn (w := [(a, .inl (5, n, .inl f)), (r7, .inl (5, n, .inl f))]) [0, 1] gdJ7_copyOf_9075b_0.2.2.2.2.2.2.2 rfl (Or.inr ⟨_, rfl⟩) rfl rfl (PN.mk (fun j => if j = 0 then r7 else 0) rfl rfl)
def fJ_checkLength (N K : Nat) (p0 : Int32) (p1 : Int32) : Option (Unit) :=
  (if p0 ≤ p1 then (some ()) else none)
set_option maxHeartbeats 4000000 in
set_option maxRecDepth 100000 in
theorem ok_J_checkLength {N K : Nat} {p0 : Int32} {p1 : Int32} {xr : Unit} (hE : fJ_checkLength N K p0 p1 = some xr) : OkM yJ7_checkLength_df160 (.code yJ7_checkLength_df160 cJ7_checkLength_df160 2 none) (0) 0 0 [.int p0, .int p1] [] ((PN (U := Unit) (fun _ _ => none) (fun zz ad => [])) xr) := by
  refine ok_of (by decide) (Nat.le_of_ble_eq_true rfl) hE ?_
  refine aw_locals (lv' := [(0, .int p0), (1, .int p1)]) [0, 1] rfl ?_
  refine aw_iload_n (q := 1) gdJ7_checkLength_df160_0.1 rfl 1 rfl ?_
  refine aw_iload_n (q := 2) gdJ7_checkLength_df160_0.2.1 rfl 0 rfl ?_
  refine aw_icmp_ge (tgt := 37) (q := 5) gdJ7_checkLength_df160_0.2.2.1 (by decide) rfl (fun h_2 => ?_) (fun h_2 => ?_)
  · exact aw_return (w := []) [] gdJ7_checkLength_df160_0.2.2.2 rfl rfl rfl (PN.mk (fun _ => 0) rfl rfl)
  · exact aw_none
def fJ_copyOfRangeByte (N K : Nat) (n : Nat) (f : Nat → Int32) (p0 : Int32) (p1 : Int32) : Option (Nat × (Nat → Int32)) :=
  ((fJ_checkLength N K p0 p1).bind (fun x2 => (if (p1 - p0) < 0 ∨ 80 < (p1 - p0).toNatClampNeg then none else (if p0 < 0 ∨ (0 : Int32) < 0 ∨ (if (p1 - p0) < ((Int32.ofNat n) - p0) then (p1 - p0) else ((Int32.ofNat n) - p0)) < 0 ∨ n < p0.toNatClampNeg + (if (p1 - p0) < ((Int32.ofNat n) - p0) then (p1 - p0) else ((Int32.ofNat n) - p0)).toNatClampNeg ∨ ((p1 - p0).toNatClampNeg) < (0 : Int32).toNatClampNeg + (if (p1 - p0) < ((Int32.ofNat n) - p0) then (p1 - p0) else ((Int32.ofNat n) - p0)).toNatClampNeg ∨ ¬ ∀ i, i < (if (p1 - p0) < ((Int32.ofNat n) - p0) then (p1 - p0) else ((Int32.ofNat n) - p0)).toNatClampNeg → fits .byte (.int (f (p0.toNatClampNeg + i))) = true then none else (some ((p1 - p0).toNatClampNeg, (va_cpy f (fun _ => 0) p0.toNatClampNeg (0 : Int32).toNatClampNeg (if (p1 - p0) < ((Int32.ofNat n) - p0) then (p1 - p0) else ((Int32.ofNat n) - p0)).toNatClampNeg)))))))
set_option maxHeartbeats 4000000 in
set_option maxRecDepth 100000 in
theorem ok_J_copyOfRangeByte {N K : Nat} {a : Nat} {n : Nat} {f : Nat → Int32} {p0 : Int32} {p1 : Int32} {xr : Nat × (Nat → Int32)} (hE : fJ_copyOfRangeByte N K n f p0 p1 = some xr) : OkM yJ7_copyOfRangeByte_39247 (.code yJ7_copyOfRangeByte_39247 cJ7_copyOfRangeByte_39247 5 (some (.array .byte))) (2) 1 80 [.ref a, .int p0, .int p1] [(a, .inl (5, n, .inl f))] ((PN (U := Nat × (Nat → Int32)) (fun _ ad => some (.ref (ad 0))) (fun zz ad => [(a, .inl (5, n, .inl f)), ((ad 0), .inl (5, zz.1, .inl zz.2))])) xr) := by
  refine ok_of (by decide) (Nat.le_of_ble_eq_true rfl) hE ?_
  refine aw_locals (lv' := [(0, .ref a), (1, .int p0), (2, .int p1)]) [0, 1, 2] rfl ?_
  refine aw_iload_n (q := 1) gdJ7_copyOfRangeByte_39247_0.1 rfl 1 rfl ?_
  refine aw_iload_n (q := 2) gdJ7_copyOfRangeByte_39247_0.2.1 rfl 2 rfl ?_
  refine aw_call (q := 5) (kc1 := 1) (ks1 := 80) (wc := []) (wr := [(a, .inl (5, n, .inl f))]) (st1 := fun x2 g2 => []) (ws1 := fun x2 g2 => [(a, .inl (5, n, .inl f))]) (As := [.int p0, .int p1]) [] [0] (fun _ => runS gdJ7_copyOfRangeByte_39247_0.2.2.1 mi_J7_checkLength_df160 st_J7_checkLength_df160 ml_J7_343 (by omega) rfl (Nat.le_of_ble_eq_true rfl) rfl) (fun x9 h9 => ok_J_checkLength h9) rfl rfl rfl rfl rfl (by decide +kernel) (by omega) (by omega) (fun _ _ => rfl) (fun _ _ => rfl) (fun x2 g2 => ?_)
  refine aw_iload_n (q := 6) gdJ7_copyOfRangeByte_39247_0.2.2.2.1 rfl 2 rfl ?_
  refine aw_iload_n (q := 7) gdJ7_copyOfRangeByte_39247_0.2.2.2.2.1 rfl 1 rfl ?_
  refine aw_isub (q := 8) gdJ7_copyOfRangeByte_39247_0.2.2.2.2.2.1 rfl ?_
  refine aw_istore_n (q := 9) (lv' := [(3, .int (p1 - p0)), (0, .ref a), (1, .int p0), (2, .int p1)]) gdJ7_copyOfRangeByte_39247_0.2.2.2.2.2.2.1 rfl (by decide) rfl ?_
  refine aw_iload_n (q := 10) gdJ7_copyOfRangeByte_39247_0.2.2.2.2.2.2.2 rfl 0 rfl ?_
  refine aw_newB (q := 12) (B := 80) (kc' := 0) (ks' := 0) (ws' := fun r10 => [(a, .inl (5, n, .inl f)), (r10, .inl (5, ((p1 - p0).toNatClampNeg), .inl (fun _ => 0)))]) gdJ7_copyOfRangeByte_39247_10.1 rfl ac_byte (by decide) (by omega) (by omega) (fun _ => rfl) (fun r10 => ?_)
  refine aw_astore (q := 14) (lv' := [(4, .ref r10), (3, .int (p1 - p0)), (0, .ref a), (1, .int p0), (2, .int p1)]) gdJ7_copyOfRangeByte_39247_10.2.1 rfl (by decide) rfl ?_
  refine aw_aload_n (q := 15) gdJ7_copyOfRangeByte_39247_10.2.2.1 rfl 2 rfl ?_
  refine aw_iload_n (q := 16) gdJ7_copyOfRangeByte_39247_10.2.2.2.1 rfl 3 rfl ?_
  refine aw_aload (q := 18) gdJ7_copyOfRangeByte_39247_10.2.2.2.2.1 rfl 0 rfl ?_
  refine aw_iconst (q := 19) (v := 0) gdJ7_copyOfRangeByte_39247_10.2.2.2.2.2.1 rfl (by decide) ?_
  refine aw_aload_n (q := 20) gdJ7_copyOfRangeByte_39247_10.2.2.2.2.2.2.1 rfl 2 rfl ?_
  refine aw_alen (q := 21) (v := (Int32.ofNat n)) gdJ7_copyOfRangeByte_39247_10.2.2.2.2.2.2.2 rfl 0 rfl (by decide) rfl ?_
  refine aw_iload_n (q := 22) gdJ7_copyOfRangeByte_39247_21.1 rfl 3 rfl ?_
  refine aw_isub (q := 23) gdJ7_copyOfRangeByte_39247_21.2.1 rfl ?_
  refine aw_iload_n (q := 24) gdJ7_copyOfRangeByte_39247_21.2.2.1 rfl 1 rfl ?_
  refine aw_mmin (q := 27) gdJ7_copyOfRangeByte_39247_21.2.2.2.1 rfl ⟨mm_J7_304, ms_min, mi_Math, mc_min⟩ (by omega) (Nat.le_of_ble_eq_true rfl) ?_
  refine aw_copyB (q := 30) (ws' := [(a, .inl (5, n, .inl f)), (r10, .inl (5, ((p1 - p0).toNatClampNeg), .inl (va_cpy f (fun _ => 0) p0.toNatClampNeg (0 : Int32).toNatClampNeg (if (p1 - p0) < ((Int32.ofNat n) - p0) then (p1 - p0) else ((Int32.ofNat n) - p0)).toNatClampNeg)))]) gdJ7_copyOfRangeByte_39247_21.2.2.2.2.1 rfl ml_J7_150 w_ac (by omega) (Nat.le_of_ble_eq_true rfl) 0 1 rfl rfl rfl ?_
  refine aw_aload (q := 32) gdJ7_copyOfRangeByte_39247_21.2.2.2.2.2.1 rfl 0 rfl ?_
  exact aw_areturn (w := [(a, .inl (5, n, .inl f)), (r10, .inl (5, ((p1 - p0).toNatClampNeg), .inl (va_cpy f (fun _ => 0) p0.toNatClampNeg (0 : Int32).toNatClampNeg (if (p1 - p0) < ((Int32.ofNat n) - p0) then (p1 - p0) else ((Int32.ofNat n) - p0)).toNatClampNeg)))]) [0, 1] gdJ7_copyOfRangeByte_39247_21.2.2.2.2.2.2 rfl (Or.inr ⟨_, rfl⟩) rfl rfl (PN.mk (fun j => if j = 0 then r10 else 0) rfl rfl)
def fJ_copyOfRange (N K : Nat) (n : Nat) (f : Nat → Int32) (p0 : Int32) (p1 : Int32) : Option (Nat × (Nat → Int32)) :=
  (if p0 = 0 then (if p1 = (Int32.ofNat n) then (if 80 < n ∨ ¬ ∀ i, i < n → fits .byte (.int (f i)) = true then none else (some (n, f))) else ((fJ_copyOfRangeByte N K n f p0 p1).bind (fun x13_1 => (some (x13_1.1, x13_1.2))))) else ((fJ_copyOfRangeByte N K n f p0 p1).bind (fun x13 => (some (x13.1, x13.2)))))
set_option maxHeartbeats 4000000 in
set_option maxRecDepth 100000 in
theorem ok_J_copyOfRange {N K : Nat} {a : Nat} {n : Nat} {f : Nat → Int32} {p0 : Int32} {p1 : Int32} {xr : Nat × (Nat → Int32)} (hE : fJ_copyOfRange N K n f p0 p1 = some xr) : OkM yJ7_copyOfRange_39247 (.code yJ7_copyOfRange_39247 cJ7_copyOfRange_39247 3 (some (.array .byte))) (3) 1 80 [.ref a, .int p0, .int p1] [(a, .inl (5, n, .inl f))] ((PN (U := Nat × (Nat → Int32)) (fun _ ad => some (.ref (ad 0))) (fun zz ad => [(a, .inl (5, n, .inl f)), ((ad 0), .inl (5, zz.1, .inl zz.2))])) xr) := by
  refine ok_of (by decide) (Nat.le_of_ble_eq_true rfl) hE ?_
  refine aw_locals (lv' := [(0, .ref a), (1, .int p0), (2, .int p1)]) [0, 1, 2] rfl ?_
  refine aw_iload_n (q := 1) gdJ7_copyOfRange_39247_0.1 rfl 1 rfl ?_
  refine aw_if_ne (tgt := 10) (q := 4) gdJ7_copyOfRange_39247_0.2.1 (by decide) rfl (fun h_1 => ?_) (fun h_1 => ?_)
  · refine aw_aload_n (q := 11) gdJ7_copyOfRange_39247_0.2.2.2.2.2.2.1 rfl 0 rfl ?_
    refine aw_iload_n (q := 12) gdJ7_copyOfRange_39247_0.2.2.2.2.2.2.2 rfl 1 rfl ?_
    refine aw_iload_n (q := 13) gdJ7_copyOfRange_39247_12.1 rfl 2 rfl ?_
    refine aw_call (q := 16) (kc1 := 0) (ks1 := 0) (wc := [(a, .inl (5, n, .inl f))]) (wr := []) (st1 := fun x13 g13 => [.ref (g13 0)]) (ws1 := fun x13 g13 => [(a, .inl (5, n, .inl f)), ((g13 0), .inl (5, x13.1, .inl x13.2))]) (As := [.ref a, .int p0, .int p1]) [0] [] (fun _ => runS gdJ7_copyOfRange_39247_12.2.1 mi_J7_copyOfRangeByte_39247 st_J7_copyOfRangeByte_39247 ml_J7_339 (by omega) rfl (Nat.le_of_ble_eq_true rfl) rfl) (fun x9 h9 => ok_J_copyOfRangeByte h9) rfl rfl rfl rfl rfl (by decide +kernel) (by omega) (by omega) (fun _ _ => rfl) (fun _ _ => rfl) (fun x13 g13 => ?_)
    exact aw_areturn (w := [(a, .inl (5, n, .inl f)), ((g13 0), .inl (5, x13.1, .inl x13.2))]) [0, 1] gdJ7_copyOfRange_39247_12.2.2.1 rfl (Or.inr ⟨_, rfl⟩) rfl rfl (PN.mk (fun j => if j = 0 then (g13 0) else 0) rfl rfl)
  · refine aw_iload_n (q := 5) gdJ7_copyOfRange_39247_0.2.2.1 rfl 2 rfl ?_
    refine aw_aload_n (q := 6) gdJ7_copyOfRange_39247_0.2.2.2.1 rfl 0 rfl ?_
    refine aw_alen (q := 7) (v := (Int32.ofNat n)) gdJ7_copyOfRange_39247_0.2.2.2.2.1 rfl 0 rfl (by decide) rfl ?_
    refine aw_icmp_eq (tgt := 17) (q := 10) gdJ7_copyOfRange_39247_0.2.2.2.2.2.1 (by decide) rfl (fun h_7 => ?_) (fun h_7 => ?_)
    · refine aw_aload_n (q := 18) gdJ7_copyOfRange_39247_12.2.2.2.1 rfl 0 rfl ?_
      refine aw_cloneB (q := 24) (B := 80) (kc' := 0) (ks' := 0) (ws' := fun r18 => [(a, .inl (5, n, .inl f)), (r18, .inl (5, n, .inl f))]) gdJ7_copyOfRange_39247_12.2.2.2.2.1 gdJ7_copyOfRange_39247_12.2.2.2.2.2.1 rfl w_cl (by omega) (Nat.le_of_ble_eq_true rfl) 0 rfl (by omega) (by omega) (fun _ => rfl) (fun r18 => ?_)
      exact aw_areturn (w := [(a, .inl (5, n, .inl f)), (r18, .inl (5, n, .inl f))]) [0, 1] gdJ7_copyOfRange_39247_12.2.2.2.2.2.2 rfl (Or.inr ⟨_, rfl⟩) rfl rfl (PN.mk (fun j => if j = 0 then r18 else 0) rfl rfl)
    · refine aw_aload_n (q := 11) gdJ7_copyOfRange_39247_0.2.2.2.2.2.2.1 rfl 0 rfl ?_
      refine aw_iload_n (q := 12) gdJ7_copyOfRange_39247_0.2.2.2.2.2.2.2 rfl 1 rfl ?_
      refine aw_iload_n (q := 13) gdJ7_copyOfRange_39247_12.1 rfl 2 rfl ?_
      refine aw_call (q := 16) (kc1 := 0) (ks1 := 0) (wc := [(a, .inl (5, n, .inl f))]) (wr := []) (st1 := fun x13_1 g13_1 => [.ref (g13_1 0)]) (ws1 := fun x13_1 g13_1 => [(a, .inl (5, n, .inl f)), ((g13_1 0), .inl (5, x13_1.1, .inl x13_1.2))]) (As := [.ref a, .int p0, .int p1]) [0] [] (fun _ => runS gdJ7_copyOfRange_39247_12.2.1 mi_J7_copyOfRangeByte_39247 st_J7_copyOfRangeByte_39247 ml_J7_339 (by omega) rfl (Nat.le_of_ble_eq_true rfl) rfl) (fun x9 h9 => ok_J_copyOfRangeByte h9) rfl rfl rfl rfl rfl (by decide +kernel) (by omega) (by omega) (fun _ _ => rfl) (fun _ _ => rfl) (fun x13_1 g13_1 => ?_)
      exact aw_areturn (w := [(a, .inl (5, n, .inl f)), ((g13_1 0), .inl (5, x13_1.1, .inl x13_1.2))]) [0, 1] gdJ7_copyOfRange_39247_12.2.2.1 rfl (Or.inr ⟨_, rfl⟩) rfl rfl (PN.mk (fun j => if j = 0 then (g13_1 0) else 0) rfl rfl)
def fJ_newCapacity (N K : Nat) (cnt : Int32) (n : Nat) (f : Nat → Int32) (p0 : Int32) : Option (Int32) :=
  ((fJ_newLength N K (Int32.ofNat n) ((p0 <<< ((0 : Int32) &&& (31 : Int32))) - (Int32.ofNat n)) ((Int32.ofNat n) + ((2 : Int32) <<< ((0 : Int32) &&& (31 : Int32))))).bind (fun x29 => (if x29 = (2147483647 : Int32) then none else (some (x29 >>> ((0 : Int32) &&& (31 : Int32)))))))
set_option maxHeartbeats 4000000 in
set_option maxRecDepth 100000 in
theorem ok_J_newCapacity {N K : Nat} {b v : Nat} {cnt : Int32} {n : Nat} {f : Nat → Int32} {p0 : Int32} {xr : Int32} (hE : fJ_newCapacity N K cnt n f p0 = some xr) : OkM yJ5_newCapacity_0f7a4 (.code yJ5_newCapacity_0f7a4 cJ5_newCapacity_0f7a4 6 (some .int)) (2) 0 0 [.ref b, .int p0] [(b, .inr (1, [.ref v, .int (0 : Int32), .int (0 : Int32), .int cnt])), (v, .inl (5, n, .inl f))] ((PN (U := Int32) (fun zz _ => some (.int zz)) (fun zz ad => [(b, .inr (1, [.ref v, .int (0 : Int32), .int (0 : Int32), .int cnt])), (v, .inl (5, n, .inl f))])) xr) := by
  refine ok_of (by decide) (Nat.le_of_ble_eq_true rfl) hE ?_
  refine aw_locals (lv' := [(0, .ref b), (1, .int p0)]) [0, 1] rfl ?_
  refine aw_aload_n (q := 1) gdJ5_newCapacity_0f7a4_0.1 rfl 0 rfl ?_
  refine aw_get (q := 4) gdJ5_newCapacity_0f7a4_0.2.1 rfl fl_J5_15 0 rfl rfl ?_
  refine aw_alen (q := 5) (v := (Int32.ofNat n)) gdJ5_newCapacity_0f7a4_0.2.2.1 rfl 1 rfl (by decide) rfl ?_
  refine aw_istore_n (q := 6) (lv' := [(2, .int (Int32.ofNat n)), (0, .ref b), (1, .int p0)]) gdJ5_newCapacity_0f7a4_0.2.2.2.1 rfl (by decide) rfl ?_
  refine aw_iload_n (q := 7) gdJ5_newCapacity_0f7a4_0.2.2.2.2.1 rfl 2 rfl ?_
  refine aw_aload_n (q := 8) gdJ5_newCapacity_0f7a4_0.2.2.2.2.2.1 rfl 1 rfl ?_
  refine aw_get (q := 11) gdJ5_newCapacity_0f7a4_0.2.2.2.2.2.2.1 rfl fl_J5_22 0 rfl rfl ?_
  refine aw_ishl (q := 12) gdJ5_newCapacity_0f7a4_0.2.2.2.2.2.2.2 rfl ?_
  refine aw_istore_n (q := 13) (lv' := [(3, .int (p0 <<< ((0 : Int32) &&& (31 : Int32)))), (2, .int (Int32.ofNat n)), (0, .ref b), (1, .int p0)]) gdJ5_newCapacity_0f7a4_12.1 rfl (by decide) rfl ?_
  refine aw_iload_n (q := 14) gdJ5_newCapacity_0f7a4_12.2.1 rfl 0 rfl ?_
  refine aw_iload_n (q := 15) gdJ5_newCapacity_0f7a4_12.2.2.1 rfl 1 rfl ?_
  refine aw_isub (q := 16) gdJ5_newCapacity_0f7a4_12.2.2.2.1 rfl ?_
  refine aw_istore (q := 18) (lv' := [(4, .int ((p0 <<< ((0 : Int32) &&& (31 : Int32))) - (Int32.ofNat n))), (3, .int (p0 <<< ((0 : Int32) &&& (31 : Int32)))), (2, .int (Int32.ofNat n)), (0, .ref b), (1, .int p0)]) gdJ5_newCapacity_0f7a4_12.2.2.2.2.1 rfl (by decide) rfl ?_
  refine aw_iload_n (q := 19) gdJ5_newCapacity_0f7a4_12.2.2.2.2.2.1 rfl 2 rfl ?_
  refine aw_iload (q := 21) gdJ5_newCapacity_0f7a4_12.2.2.2.2.2.2.1 rfl 0 rfl ?_
  refine aw_iload_n (q := 22) gdJ5_newCapacity_0f7a4_12.2.2.2.2.2.2.2 rfl 2 rfl ?_
  refine aw_iconst (q := 23) (v := 2) gdJ5_newCapacity_0f7a4_22.1 rfl (by decide) ?_
  refine aw_aload_n (q := 24) gdJ5_newCapacity_0f7a4_22.2.1 rfl 3 rfl ?_
  refine aw_get (q := 27) gdJ5_newCapacity_0f7a4_22.2.2.1 rfl fl_J5_22 0 rfl rfl ?_
  refine aw_ishl (q := 28) gdJ5_newCapacity_0f7a4_22.2.2.2.1 rfl ?_
  refine aw_iadd (q := 29) gdJ5_newCapacity_0f7a4_22.2.2.2.2.1 rfl ?_
  refine aw_call (q := 32) (kc1 := 0) (ks1 := 0) (wc := []) (wr := [(b, .inr (1, [.ref v, .int (0 : Int32), .int (0 : Int32), .int cnt])), (v, .inl (5, n, .inl f))]) (st1 := fun x29 g29 => [.int x29]) (ws1 := fun x29 g29 => [(b, .inr (1, [.ref v, .int (0 : Int32), .int (0 : Int32), .int cnt])), (v, .inl (5, n, .inl f))]) (As := [.int (Int32.ofNat n), .int ((p0 <<< ((0 : Int32) &&& (31 : Int32))) - (Int32.ofNat n)), .int ((Int32.ofNat n) + ((2 : Int32) <<< ((0 : Int32) &&& (31 : Int32))))]) [] [0, 1] (fun _ => runS gdJ5_newCapacity_0f7a4_22.2.2.2.2.2.1 mi_J8_newLength_cabcc st_J8_newLength_cabcc ml_J5_114 (by omega) rfl (Nat.le_of_ble_eq_true rfl) rfl) (fun x9 h9 => ok_J_newLength h9) rfl rfl rfl rfl rfl (by decide +kernel) (by omega) (by omega) (fun _ _ => rfl) (fun _ _ => rfl) (fun x29 g29 => ?_)
  refine aw_istore (q := 34) (lv' := [(5, .int x29), (4, .int ((p0 <<< ((0 : Int32) &&& (31 : Int32))) - (Int32.ofNat n))), (3, .int (p0 <<< ((0 : Int32) &&& (31 : Int32)))), (2, .int (Int32.ofNat n)), (0, .ref b), (1, .int p0)]) gdJ5_newCapacity_0f7a4_22.2.2.2.2.2.2.1 rfl (by decide) rfl ?_
  refine aw_iload (q := 36) gdJ5_newCapacity_0f7a4_22.2.2.2.2.2.2.2 rfl 0 rfl ?_
  refine aw_ldc (q := 38) gdJ5_newCapacity_0f7a4_36.1 rfl co_J5_39 ?_
  refine aw_icmp_ne (tgt := 51) (q := 41) gdJ5_newCapacity_0f7a4_36.2.1 (by decide) rfl (fun h_38 => ?_) (fun h_38 => ?_)
  · refine aw_iload (q := 53) gdJ5_newCapacity_0f7a4_36.2.2.1 rfl 0 rfl ?_
    refine aw_aload_n (q := 54) gdJ5_newCapacity_0f7a4_36.2.2.2.1 rfl 4 rfl ?_
    refine aw_get (q := 57) gdJ5_newCapacity_0f7a4_36.2.2.2.2.1 rfl fl_J5_22 0 rfl rfl ?_
    refine aw_ishr (q := 58) gdJ5_newCapacity_0f7a4_36.2.2.2.2.2.1 rfl ?_
    exact aw_ireturn (w := [(b, .inr (1, [.ref v, .int (0 : Int32), .int (0 : Int32), .int cnt])), (v, .inl (5, n, .inl f))]) [0, 1] gdJ5_newCapacity_0f7a4_36.2.2.2.2.2.2 rfl rfl rfl rfl (PN.mk (fun _ => 0) rfl rfl)
  · exact aw_none
def fJ_ensure (N K : Nat) (cnt : Int32) (n : Nat) (f : Nat → Int32) (p0 : Int32) : Option (Nat × (Nat → Int32)) :=
  (if (p0 - ((Int32.ofNat n) >>> ((0 : Int32) &&& (31 : Int32)))) ≤ 0 then (some (n, f)) else ((fJ_newCapacity N K cnt n f p0).bind (fun x24 => ((fJ_copyOf N K n f (x24 <<< ((0 : Int32) &&& (31 : Int32)))).bind (fun x32 => (some (x32.1, x32.2)))))))
set_option maxHeartbeats 4000000 in
set_option maxRecDepth 100000 in
theorem ok_J_ensure {N K : Nat} {b v : Nat} {cnt : Int32} {n : Nat} {f : Nat → Int32} {p0 : Int32} {xr : Nat × (Nat → Int32)} (hE : fJ_ensure N K cnt n f p0 = some xr) : OkM yJ5_ensureCapacityInternal_d00df (.code yJ5_ensureCapacityInternal_d00df cJ5_ensureCapacityInternal_d00df 3 none) (3) 1 80 [.ref b, .int p0] [(b, .inr (1, [.ref v, .int (0 : Int32), .int (0 : Int32), .int cnt])), (v, .inl (5, n, .inl f))] ((PN (U := Nat × (Nat → Int32)) (fun _ _ => none) (fun zz ad => [(b, .inr (1, [.ref (ad 0), .int (0 : Int32), .int (0 : Int32), .int cnt])), ((ad 0), .inl (5, zz.1, .inl zz.2))])) xr) := by
  refine ok_of (by decide) (Nat.le_of_ble_eq_true rfl) hE ?_
  refine aw_locals (lv' := [(0, .ref b), (1, .int p0)]) [0, 1] rfl ?_
  refine aw_aload_n (q := 1) gdJ5_ensureCapacityInternal_d00df_0.1 rfl 0 rfl ?_
  refine aw_get (q := 4) gdJ5_ensureCapacityInternal_d00df_0.2.1 rfl fl_J5_15 0 rfl rfl ?_
  refine aw_alen (q := 5) (v := (Int32.ofNat n)) gdJ5_ensureCapacityInternal_d00df_0.2.2.1 rfl 1 rfl (by decide) rfl ?_
  refine aw_aload_n (q := 6) gdJ5_ensureCapacityInternal_d00df_0.2.2.2.1 rfl 0 rfl ?_
  refine aw_get (q := 9) gdJ5_ensureCapacityInternal_d00df_0.2.2.2.2.1 rfl fl_J5_22 0 rfl rfl ?_
  refine aw_ishr (q := 10) gdJ5_ensureCapacityInternal_d00df_0.2.2.2.2.2.1 rfl ?_
  refine aw_istore_n (q := 11) (lv' := [(2, .int ((Int32.ofNat n) >>> ((0 : Int32) &&& (31 : Int32)))), (0, .ref b), (1, .int p0)]) gdJ5_ensureCapacityInternal_d00df_0.2.2.2.2.2.2.1 rfl (by decide) rfl ?_
  refine aw_iload_n (q := 12) gdJ5_ensureCapacityInternal_d00df_0.2.2.2.2.2.2.2 rfl 2 rfl ?_
  refine aw_iload_n (q := 13) gdJ5_ensureCapacityInternal_d00df_12.1 rfl 0 rfl ?_
  refine aw_isub (q := 14) gdJ5_ensureCapacityInternal_d00df_12.2.1 rfl ?_
  refine aw_if_le (tgt := 38) (q := 17) gdJ5_ensureCapacityInternal_d00df_12.2.2.1 (by decide) rfl (fun h_14 => ?_) (fun h_14 => ?_)
  · exact aw_return (w := [(b, .inr (1, [.ref v, .int (0 : Int32), .int (0 : Int32), .int cnt])), (v, .inl (5, n, .inl f))]) [0, 1] gdJ5_ensureCapacityInternal_d00df_24.2.2.2.2.2.2 rfl rfl rfl (PN.mk (fun j => if j = 0 then v else 0) rfl rfl)
  · refine aw_aload_n (q := 18) gdJ5_ensureCapacityInternal_d00df_12.2.2.2.1 rfl 1 rfl ?_
    refine aw_aload_n (q := 19) gdJ5_ensureCapacityInternal_d00df_12.2.2.2.2.1 rfl 1 rfl ?_
    refine aw_get (q := 22) gdJ5_ensureCapacityInternal_d00df_12.2.2.2.2.2.1 rfl fl_J5_15 0 rfl rfl ?_
    refine aw_aload_n (q := 23) gdJ5_ensureCapacityInternal_d00df_12.2.2.2.2.2.2.1 rfl 1 rfl ?_
    refine aw_iload_n (q := 24) gdJ5_ensureCapacityInternal_d00df_12.2.2.2.2.2.2.2 rfl 2 rfl ?_
    refine aw_call (q := 27) (kc1 := 1) (ks1 := 80) (wc := [(b, .inr (1, [.ref v, .int (0 : Int32), .int (0 : Int32), .int cnt])), (v, .inl (5, n, .inl f))]) (wr := []) (st1 := fun x24 g24 => [.int x24, .ref v, .ref b]) (ws1 := fun x24 g24 => [(b, .inr (1, [.ref v, .int (0 : Int32), .int (0 : Int32), .int cnt])), (v, .inl (5, n, .inl f))]) (As := [.ref b, .int p0]) [0, 1] [] (fun _ => runU (q0 := 0) gdJ5_ensureCapacityInternal_d00df_24.1 mi_J5_newCapacity_0f7a4 im_J5_newCapacity_0f7a4 (fun _ _ h9 h8 => sel_sub (h9 _ su_J5_isLatin1_aae02) rfl (by decide +kernel) (NGW_use pv_J5_newCapacity_0f7a4 (h8 _ pv_J5_newCapacity_0f7a4)) (h9 _ im_J5_newCapacity_0f7a4)) sm_J5_newCapacity_0f7a4 im_J5_newCapacity_0f7a4 cd_J5_newCapacity_0f7a4 ml_J5_104 (by decide +kernel) (by omega) rfl (Nat.le_of_ble_eq_true rfl) rfl rfl rfl rfl) (fun x9 h9 => ok_J_newCapacity h9) rfl rfl rfl rfl rfl (by decide +kernel) (by omega) (by omega) (fun _ _ => rfl) (fun _ _ => rfl) (fun x24 g24 => ?_)
    refine aw_aload_n (q := 28) gdJ5_ensureCapacityInternal_d00df_24.2.1 rfl 1 rfl ?_
    refine aw_get (q := 31) gdJ5_ensureCapacityInternal_d00df_24.2.2.1 rfl fl_J5_22 0 rfl rfl ?_
    refine aw_ishl (q := 32) gdJ5_ensureCapacityInternal_d00df_24.2.2.2.1 rfl ?_
    refine aw_call (q := 35) (kc1 := 0) (ks1 := 0) (wc := [(v, .inl (5, n, .inl f))]) (wr := [(b, .inr (1, [.ref v, .int (0 : Int32), .int (0 : Int32), .int cnt]))]) (st1 := fun x32 g32 => [.ref (g32 0), .ref b]) (ws1 := fun x32 g32 => [(b, .inr (1, [.ref v, .int (0 : Int32), .int (0 : Int32), .int cnt])), (v, .inl (5, n, .inl f)), ((g32 0), .inl (5, x32.1, .inl x32.2))]) (As := [.ref v, .int (x24 <<< ((0 : Int32) &&& (31 : Int32)))]) [1] [0] (fun _ => runS gdJ5_ensureCapacityInternal_d00df_24.2.2.2.2.1 mi_J7_copyOf_9075b st_J7_copyOf_9075b ml_J5_108 (by omega) rfl (Nat.le_of_ble_eq_true rfl) rfl) (fun x9 h9 => ok_J_copyOf h9) rfl rfl rfl rfl rfl (by decide +kernel) (by omega) (by omega) (fun _ _ => rfl) (fun _ _ => rfl) (fun x32 g32 => ?_)
    refine aw_put (q := 38) (ws' := [(b, .inr (1, [.ref (g32 0), .int (0 : Int32), .int (0 : Int32), .int cnt])), (v, .inl (5, n, .inl f)), ((g32 0), .inl (5, x32.1, .inl x32.2))]) gdJ5_ensureCapacityInternal_d00df_24.2.2.2.2.2.1 rfl fl_J5_15 0 rfl rfl rfl (Nat.le_of_ble_eq_true rfl) rfl ?_
    exact aw_return (w := [(b, .inr (1, [.ref (g32 0), .int (0 : Int32), .int (0 : Int32), .int cnt])), ((g32 0), .inl (5, x32.1, .inl x32.2))]) [0, 2] gdJ5_ensureCapacityInternal_d00df_24.2.2.2.2.2.2 rfl rfl rfl (PN.mk (fun j => if j = 0 then (g32 0) else 0) rfl rfl)
def fJ_getChars_22 (N K : Nat) (n : Nat) (f : Nat → Int32) (p0 : Int32) (p1 : Int32) : Nat → Int32 → Int32 → (Nat → Int32) → Option (Int32 × (Nat → Int32))
  | 0, _, _, _ => none
  | fu + 1, l0, l5, f_ =>
    (if (-100 : Int32) < l0 then (if (-l0) < 0 ∨ 100 ≤ (-l0).toNatClampNeg then none else (if (l5 + (-1 : Int32)) < 0 ∨ n ≤ (l5 + (-1 : Int32)).toNatClampNeg then none else (if (-9 : Int32) ≤ l0 then (some ((l5 + (-1 : Int32)), (upd f_ (l5 + (-1 : Int32)).toNatClampNeg (vp_nar .byte ((fun j => Int32.ofNat (48 + j % 10)) (-l0).toNatClampNeg))))) else (if (-l0) < 0 ∨ 100 ≤ (-l0).toNatClampNeg then none else (if ((l5 + (-1 : Int32)) + (-1 : Int32)) < 0 ∨ n ≤ ((l5 + (-1 : Int32)) + (-1 : Int32)).toNatClampNeg then none else (some (((l5 + (-1 : Int32)) + (-1 : Int32)), (upd (upd f_ (l5 + (-1 : Int32)).toNatClampNeg (vp_nar .byte ((fun j => Int32.ofNat (48 + j % 10)) (-l0).toNatClampNeg))) ((l5 + (-1 : Int32)) + (-1 : Int32)).toNatClampNeg (vp_nar .byte ((fun j => Int32.ofNat (48 + j / 10)) (-l0).toNatClampNeg)))))))))) else (if (((l0 / (100 : Int32)) * (100 : Int32)) - l0) < 0 ∨ 100 ≤ (((l0 / (100 : Int32)) * (100 : Int32)) - l0).toNatClampNeg then none else (if (l5 + (-1 : Int32)) < 0 ∨ n ≤ (l5 + (-1 : Int32)).toNatClampNeg then none else (if (((l0 / (100 : Int32)) * (100 : Int32)) - l0) < 0 ∨ 100 ≤ (((l0 / (100 : Int32)) * (100 : Int32)) - l0).toNatClampNeg then none else (if ((l5 + (-1 : Int32)) + (-1 : Int32)) < 0 ∨ n ≤ ((l5 + (-1 : Int32)) + (-1 : Int32)).toNatClampNeg then none else fJ_getChars_22 N K n f p0 p1  fu (l0 / (100 : Int32)) ((l5 + (-1 : Int32)) + (-1 : Int32)) (upd (upd f_ (l5 + (-1 : Int32)).toNatClampNeg (vp_nar .byte ((fun j => Int32.ofNat (48 + j % 10)) (((l0 / (100 : Int32)) * (100 : Int32)) - l0).toNatClampNeg))) ((l5 + (-1 : Int32)) + (-1 : Int32)).toNatClampNeg (vp_nar .byte ((fun j => Int32.ofNat (48 + j / 10)) (((l0 / (100 : Int32)) * (100 : Int32)) - l0).toNatClampNeg))))))))
set_option maxHeartbeats 4000000 in
set_option maxRecDepth 100000 in
theorem tJ_getChars_22 {N K : Nat} {a : Nat} {n : Nat} {f : Nat → Int32} {p0 : Int32} {p1 : Int32} : ∀ (fu : Nat) (l0 : Int32) (l5 : Int32) (f_ : Nat → Int32), AW RJ6 "getChars" cJ6_getChars_ba4f3 7 (some .int) [] (fun _ _ => True) (0) (PN (U := Int32 × (Nat → Int32)) (fun zz _ => some (.int zz.1)) (fun zz ad => [(a, .inl (5, n, .inl zz.2))])) 0 0 (fJ_getChars_22 N K n f p0 p1  fu l0 l5 f_) 22 [(0, .int l0), (2, .ref a), (5, .int l5), (6, .int (0 : Int32))] [] [(a, .inl (5, n, .inl f_))] := by
  intro fu
  induction fu with
  | zero => intro l0 l5 f_; exact aw_none
  | succ fu ih =>
    intro l0 l5 f_
    refine aw_iload_n (q := 23) gdJ6_getChars_ba4f3_14.2.2.2.2.2.1 rfl 0 rfl ?_
    refine aw_bipush (q := 25) (v := (-100)) gdJ6_getChars_ba4f3_14.2.2.2.2.2.2.1 rfl (by decide) ?_
    refine aw_icmp_gt (tgt := 72) (q := 28) gdJ6_getChars_ba4f3_14.2.2.2.2.2.2.2 (by decide) rfl (fun h_25 => ?_) (fun h_25 => ?_)
    · refine aw_aload_n (q := 73) gdJ6_getChars_ba4f3_67.2.2.2.1 rfl 1 rfl ?_
      refine aw_iinc (q := 76) (v := (l5 + (-1 : Int32))) (lv' := [(5, .int (l5 + (-1 : Int32))), (0, .int l0), (2, .ref a), (6, .int (0 : Int32))]) gdJ6_getChars_ba4f3_67.2.2.2.2.1 rfl 2 rfl rfl (by decide) rfl ?_
      refine aw_iload (q := 78) gdJ6_getChars_ba4f3_67.2.2.2.2.2.1 rfl 0 rfl ?_
      refine aw_tab1 (q := 84) (S := "DigitOnes") (tb := (fun j => Int32.ofNat (48 + j % 10))) gdJ6_getChars_ba4f3_67.2.2.2.2.2.2.1 gdJ6_getChars_ba4f3_67.2.2.2.2.2.2.2 gdJ6_getChars_ba4f3_82.1 gdJ6_getChars_ba4f3_82.2.1 rfl gs_J6_83 (List.mem_of_getElem? (i := 0) rfl) 1 rfl ?_
      refine aw_bast (q := 85) (ws' := [(a, .inl (5, n, .inl (upd f_ (l5 + (-1 : Int32)).toNatClampNeg (vp_nar .byte ((fun j => Int32.ofNat (48 + j % 10)) (-l0).toNatClampNeg)))))]) gdJ6_getChars_ba4f3_82.2.2.1 rfl 0 rfl rfl ?_
      refine aw_iload_n (q := 86) gdJ6_getChars_ba4f3_82.2.2.2.1 rfl 1 rfl ?_
      refine aw_bipush (q := 88) (v := (-9)) gdJ6_getChars_ba4f3_82.2.2.2.2.1 rfl (by decide) ?_
      refine aw_icmp_ge (tgt := 104) (q := 91) gdJ6_getChars_ba4f3_82.2.2.2.2.2.1 (by decide) rfl (fun h_88 => ?_) (fun h_88 => ?_)
      · refine aw_iload (q := 106) gdJ6_getChars_ba4f3_95.2.2.2.2.2.2.1 rfl 3 rfl ?_
        refine aw_if_eqT (tgt := 118) gdJ6_getChars_ba4f3_95.2.2.2.2.2.2.2 (by decide) (by decide) ?_
        refine aw_iload (q := 120) gdJ6_getChars_ba4f3_109.2.2.2.2.2.1 rfl 0 rfl ?_
        exact aw_ireturn (w := [(a, .inl (5, n, .inl (upd f_ (l5 + (-1 : Int32)).toNatClampNeg (vp_nar .byte ((fun j => Int32.ofNat (48 + j % 10)) (-l0).toNatClampNeg)))))]) [0] gdJ6_getChars_ba4f3_109.2.2.2.2.2.2 rfl rfl rfl rfl (PN.mk (fun _ => 0) rfl rfl)
      · refine aw_aload_n (q := 92) gdJ6_getChars_ba4f3_82.2.2.2.2.2.2.1 rfl 2 rfl ?_
        refine aw_iinc (q := 95) (v := ((l5 + (-1 : Int32)) + (-1 : Int32))) (lv' := [(5, .int ((l5 + (-1 : Int32)) + (-1 : Int32))), (0, .int l0), (2, .ref a), (6, .int (0 : Int32))]) gdJ6_getChars_ba4f3_82.2.2.2.2.2.2.2 rfl 0 rfl rfl (by decide) rfl ?_
        refine aw_iload (q := 97) gdJ6_getChars_ba4f3_95.1 rfl 0 rfl ?_
        refine aw_tab1 (q := 103) (S := "DigitTens") (tb := (fun j => Int32.ofNat (48 + j / 10))) gdJ6_getChars_ba4f3_95.2.1 gdJ6_getChars_ba4f3_95.2.2.1 gdJ6_getChars_ba4f3_95.2.2.2.1 gdJ6_getChars_ba4f3_95.2.2.2.2.1 rfl gs_J6_87 (List.mem_of_getElem? (i := 1) rfl) 1 rfl ?_
        refine aw_bast (q := 104) (ws' := [(a, .inl (5, n, .inl (upd (upd f_ (l5 + (-1 : Int32)).toNatClampNeg (vp_nar .byte ((fun j => Int32.ofNat (48 + j % 10)) (-l0).toNatClampNeg))) ((l5 + (-1 : Int32)) + (-1 : Int32)).toNatClampNeg (vp_nar .byte ((fun j => Int32.ofNat (48 + j / 10)) (-l0).toNatClampNeg)))))]) gdJ6_getChars_ba4f3_95.2.2.2.2.2.1 rfl 0 rfl rfl ?_
        refine aw_iload (q := 106) gdJ6_getChars_ba4f3_95.2.2.2.2.2.2.1 rfl 3 rfl ?_
        refine aw_if_eqT (tgt := 118) gdJ6_getChars_ba4f3_95.2.2.2.2.2.2.2 (by decide) (by decide) ?_
        refine aw_iload (q := 120) gdJ6_getChars_ba4f3_109.2.2.2.2.2.1 rfl 0 rfl ?_
        exact aw_ireturn (w := [(a, .inl (5, n, .inl (upd (upd f_ (l5 + (-1 : Int32)).toNatClampNeg (vp_nar .byte ((fun j => Int32.ofNat (48 + j % 10)) (-l0).toNatClampNeg))) ((l5 + (-1 : Int32)) + (-1 : Int32)).toNatClampNeg (vp_nar .byte ((fun j => Int32.ofNat (48 + j / 10)) (-l0).toNatClampNeg)))))]) [0] gdJ6_getChars_ba4f3_109.2.2.2.2.2.2 rfl rfl rfl rfl (PN.mk (fun _ => 0) rfl rfl)
    · refine aw_iload_n (q := 29) gdJ6_getChars_ba4f3_28.1 rfl 0 rfl ?_
      refine aw_bipush (q := 31) (v := 100) gdJ6_getChars_ba4f3_28.2.1 rfl (by decide) ?_
      refine aw_idivT (q := 32) gdJ6_getChars_ba4f3_28.2.2.1 rfl (by decide) ?_
      refine aw_istore_n (q := 33) (lv' := [(3, .int (l0 / (100 : Int32))), (0, .int l0), (2, .ref a), (5, .int l5), (6, .int (0 : Int32))]) gdJ6_getChars_ba4f3_28.2.2.2.1 rfl (by decide) rfl ?_
      refine aw_iload_n (q := 34) gdJ6_getChars_ba4f3_28.2.2.2.2.1 rfl 0 rfl ?_
      refine aw_bipush (q := 36) (v := 100) gdJ6_getChars_ba4f3_28.2.2.2.2.2.1 rfl (by decide) ?_
      refine aw_imul (q := 37) gdJ6_getChars_ba4f3_28.2.2.2.2.2.2.1 rfl ?_
      refine aw_iload_n (q := 38) gdJ6_getChars_ba4f3_28.2.2.2.2.2.2.2 rfl 1 rfl ?_
      refine aw_isub (q := 39) gdJ6_getChars_ba4f3_38.1 rfl ?_
      refine aw_istore (q := 41) (lv' := [(4, .int (((l0 / (100 : Int32)) * (100 : Int32)) - l0)), (3, .int (l0 / (100 : Int32))), (0, .int l0), (2, .ref a), (5, .int l5), (6, .int (0 : Int32))]) gdJ6_getChars_ba4f3_38.2.1 rfl (by decide) rfl ?_
      refine aw_iload_n (q := 42) gdJ6_getChars_ba4f3_38.2.2.1 rfl 1 rfl ?_
      refine aw_istore_n (q := 43) (lv' := [(0, .int (l0 / (100 : Int32))), (4, .int (((l0 / (100 : Int32)) * (100 : Int32)) - l0)), (3, .int (l0 / (100 : Int32))), (2, .ref a), (5, .int l5), (6, .int (0 : Int32))]) gdJ6_getChars_ba4f3_38.2.2.2.1 rfl (by decide) rfl ?_
      refine aw_aload_n (q := 44) gdJ6_getChars_ba4f3_38.2.2.2.2.1 rfl 3 rfl ?_
      refine aw_iinc (q := 47) (v := (l5 + (-1 : Int32))) (lv' := [(5, .int (l5 + (-1 : Int32))), (0, .int (l0 / (100 : Int32))), (4, .int (((l0 / (100 : Int32)) * (100 : Int32)) - l0)), (3, .int (l0 / (100 : Int32))), (2, .ref a), (6, .int (0 : Int32))]) gdJ6_getChars_ba4f3_38.2.2.2.2.2.1 rfl 4 rfl rfl (by decide) rfl ?_
      refine aw_iload (q := 49) gdJ6_getChars_ba4f3_38.2.2.2.2.2.2.1 rfl 0 rfl ?_
      refine aw_tab2 (q := 55) (S := "DigitOnes") (tb := (fun j => Int32.ofNat (48 + j % 10))) gdJ6_getChars_ba4f3_38.2.2.2.2.2.2.2 gdJ6_getChars_ba4f3_52.1 gdJ6_getChars_ba4f3_52.2.1 rfl gs_J6_83 (List.mem_of_getElem? (i := 0) rfl) 2 rfl ?_
      refine aw_bast (q := 56) (ws' := [(a, .inl (5, n, .inl (upd f_ (l5 + (-1 : Int32)).toNatClampNeg (vp_nar .byte ((fun j => Int32.ofNat (48 + j % 10)) (((l0 / (100 : Int32)) * (100 : Int32)) - l0).toNatClampNeg)))))]) gdJ6_getChars_ba4f3_52.2.2.1 rfl 0 rfl rfl ?_
      refine aw_aload_n (q := 57) gdJ6_getChars_ba4f3_52.2.2.2.1 rfl 4 rfl ?_
      refine aw_iinc (q := 60) (v := ((l5 + (-1 : Int32)) + (-1 : Int32))) (lv' := [(5, .int ((l5 + (-1 : Int32)) + (-1 : Int32))), (0, .int (l0 / (100 : Int32))), (4, .int (((l0 / (100 : Int32)) * (100 : Int32)) - l0)), (3, .int (l0 / (100 : Int32))), (2, .ref a), (6, .int (0 : Int32))]) gdJ6_getChars_ba4f3_52.2.2.2.2.1 rfl 0 rfl rfl (by decide) rfl ?_
      refine aw_iload (q := 62) gdJ6_getChars_ba4f3_52.2.2.2.2.2.1 rfl 0 rfl ?_
      refine aw_tab2 (q := 68) (S := "DigitTens") (tb := (fun j => Int32.ofNat (48 + j / 10))) gdJ6_getChars_ba4f3_52.2.2.2.2.2.2.1 gdJ6_getChars_ba4f3_52.2.2.2.2.2.2.2 gdJ6_getChars_ba4f3_67.1 rfl gs_J6_87 (List.mem_of_getElem? (i := 1) rfl) 2 rfl ?_
      refine aw_bast (q := 69) (ws' := [(a, .inl (5, n, .inl (upd (upd f_ (l5 + (-1 : Int32)).toNatClampNeg (vp_nar .byte ((fun j => Int32.ofNat (48 + j % 10)) (((l0 / (100 : Int32)) * (100 : Int32)) - l0).toNatClampNeg))) ((l5 + (-1 : Int32)) + (-1 : Int32)).toNatClampNeg (vp_nar .byte ((fun j => Int32.ofNat (48 + j / 10)) (((l0 / (100 : Int32)) * (100 : Int32)) - l0).toNatClampNeg)))))]) gdJ6_getChars_ba4f3_67.2.1 rfl 0 rfl rfl ?_
      refine aw_goto (tgt := 22) gdJ6_getChars_ba4f3_67.2.2.1 (by decide) ?_
      refine aw_locals (lv' := [(0, .int (l0 / (100 : Int32))), (2, .ref a), (5, .int ((l5 + (-1 : Int32)) + (-1 : Int32))), (6, .int (0 : Int32))]) [1, 4, 0, 5] rfl ?_
      exact ih _ _ _
def fJ_getChars_22v (N K : Nat) (n : Nat) (f : Nat → Int32) (p0 : Int32) (p1 : Int32) : Nat → Int32 → Int32 → (Nat → Int32) → Option (Int32 × (Nat → Int32))
  | 0, _, _, _ => none
  | fu + 1, l0, l5, f_ =>
    (if (-100 : Int32) < l0 then (if (-l0) < 0 ∨ 100 ≤ (-l0).toNatClampNeg then none else (if (l5 + (-1 : Int32)) < 0 ∨ n ≤ (l5 + (-1 : Int32)).toNatClampNeg then none else (if (-9 : Int32) ≤ l0 then (if ((l5 + (-1 : Int32)) + (-1 : Int32)) < 0 ∨ n ≤ ((l5 + (-1 : Int32)) + (-1 : Int32)).toNatClampNeg then none else (some (((l5 + (-1 : Int32)) + (-1 : Int32)), (upd (upd f_ (l5 + (-1 : Int32)).toNatClampNeg (vp_nar .byte ((fun j => Int32.ofNat (48 + j % 10)) (-l0).toNatClampNeg))) ((l5 + (-1 : Int32)) + (-1 : Int32)).toNatClampNeg (vp_nar .byte (45 : Int32)))))) else (if (-l0) < 0 ∨ 100 ≤ (-l0).toNatClampNeg then none else (if ((l5 + (-1 : Int32)) + (-1 : Int32)) < 0 ∨ n ≤ ((l5 + (-1 : Int32)) + (-1 : Int32)).toNatClampNeg then none else (if (((l5 + (-1 : Int32)) + (-1 : Int32)) + (-1 : Int32)) < 0 ∨ n ≤ (((l5 + (-1 : Int32)) + (-1 : Int32)) + (-1 : Int32)).toNatClampNeg then none else (some ((((l5 + (-1 : Int32)) + (-1 : Int32)) + (-1 : Int32)), (upd (upd (upd f_ (l5 + (-1 : Int32)).toNatClampNeg (vp_nar .byte ((fun j => Int32.ofNat (48 + j % 10)) (-l0).toNatClampNeg))) ((l5 + (-1 : Int32)) + (-1 : Int32)).toNatClampNeg (vp_nar .byte ((fun j => Int32.ofNat (48 + j / 10)) (-l0).toNatClampNeg))) (((l5 + (-1 : Int32)) + (-1 : Int32)) + (-1 : Int32)).toNatClampNeg (vp_nar .byte (45 : Int32))))))))))) else (if (((l0 / (100 : Int32)) * (100 : Int32)) - l0) < 0 ∨ 100 ≤ (((l0 / (100 : Int32)) * (100 : Int32)) - l0).toNatClampNeg then none else (if (l5 + (-1 : Int32)) < 0 ∨ n ≤ (l5 + (-1 : Int32)).toNatClampNeg then none else (if (((l0 / (100 : Int32)) * (100 : Int32)) - l0) < 0 ∨ 100 ≤ (((l0 / (100 : Int32)) * (100 : Int32)) - l0).toNatClampNeg then none else (if ((l5 + (-1 : Int32)) + (-1 : Int32)) < 0 ∨ n ≤ ((l5 + (-1 : Int32)) + (-1 : Int32)).toNatClampNeg then none else fJ_getChars_22v N K n f p0 p1  fu (l0 / (100 : Int32)) ((l5 + (-1 : Int32)) + (-1 : Int32)) (upd (upd f_ (l5 + (-1 : Int32)).toNatClampNeg (vp_nar .byte ((fun j => Int32.ofNat (48 + j % 10)) (((l0 / (100 : Int32)) * (100 : Int32)) - l0).toNatClampNeg))) ((l5 + (-1 : Int32)) + (-1 : Int32)).toNatClampNeg (vp_nar .byte ((fun j => Int32.ofNat (48 + j / 10)) (((l0 / (100 : Int32)) * (100 : Int32)) - l0).toNatClampNeg))))))))
set_option maxHeartbeats 4000000 in
set_option maxRecDepth 100000 in
theorem tJ_getChars_22v {N K : Nat} {a : Nat} {n : Nat} {f : Nat → Int32} {p0 : Int32} {p1 : Int32} : ∀ (fu : Nat) (l0 : Int32) (l5 : Int32) (f_ : Nat → Int32), AW RJ6 "getChars" cJ6_getChars_ba4f3 7 (some .int) [] (fun _ _ => True) (0) (PN (U := Int32 × (Nat → Int32)) (fun zz _ => some (.int zz.1)) (fun zz ad => [(a, .inl (5, n, .inl zz.2))])) 0 0 (fJ_getChars_22v N K n f p0 p1  fu l0 l5 f_) 22 [(0, .int l0), (2, .ref a), (5, .int l5), (6, .int (1 : Int32))] [] [(a, .inl (5, n, .inl f_))] := by
  intro fu
  induction fu with
  | zero => intro l0 l5 f_; exact aw_none
  | succ fu ih =>
    intro l0 l5 f_
    refine aw_iload_n (q := 23) gdJ6_getChars_ba4f3_14.2.2.2.2.2.1 rfl 0 rfl ?_
    refine aw_bipush (q := 25) (v := (-100)) gdJ6_getChars_ba4f3_14.2.2.2.2.2.2.1 rfl (by decide) ?_
    refine aw_icmp_gt (tgt := 72) (q := 28) gdJ6_getChars_ba4f3_14.2.2.2.2.2.2.2 (by decide) rfl (fun h_25 => ?_) (fun h_25 => ?_)
    · refine aw_aload_n (q := 73) gdJ6_getChars_ba4f3_67.2.2.2.1 rfl 1 rfl ?_
      refine aw_iinc (q := 76) (v := (l5 + (-1 : Int32))) (lv' := [(5, .int (l5 + (-1 : Int32))), (0, .int l0), (2, .ref a), (6, .int (1 : Int32))]) gdJ6_getChars_ba4f3_67.2.2.2.2.1 rfl 2 rfl rfl (by decide) rfl ?_
      refine aw_iload (q := 78) gdJ6_getChars_ba4f3_67.2.2.2.2.2.1 rfl 0 rfl ?_
      refine aw_tab1 (q := 84) (S := "DigitOnes") (tb := (fun j => Int32.ofNat (48 + j % 10))) gdJ6_getChars_ba4f3_67.2.2.2.2.2.2.1 gdJ6_getChars_ba4f3_67.2.2.2.2.2.2.2 gdJ6_getChars_ba4f3_82.1 gdJ6_getChars_ba4f3_82.2.1 rfl gs_J6_83 (List.mem_of_getElem? (i := 0) rfl) 1 rfl ?_
      refine aw_bast (q := 85) (ws' := [(a, .inl (5, n, .inl (upd f_ (l5 + (-1 : Int32)).toNatClampNeg (vp_nar .byte ((fun j => Int32.ofNat (48 + j % 10)) (-l0).toNatClampNeg)))))]) gdJ6_getChars_ba4f3_82.2.2.1 rfl 0 rfl rfl ?_
      refine aw_iload_n (q := 86) gdJ6_getChars_ba4f3_82.2.2.2.1 rfl 1 rfl ?_
      refine aw_bipush (q := 88) (v := (-9)) gdJ6_getChars_ba4f3_82.2.2.2.2.1 rfl (by decide) ?_
      refine aw_icmp_ge (tgt := 104) (q := 91) gdJ6_getChars_ba4f3_82.2.2.2.2.2.1 (by decide) rfl (fun h_88 => ?_) (fun h_88 => ?_)
      · refine aw_iload (q := 106) gdJ6_getChars_ba4f3_95.2.2.2.2.2.2.1 rfl 3 rfl ?_
        refine aw_if_eqF (q := 109) (off := 12) (tgt := 118) gdJ6_getChars_ba4f3_95.2.2.2.2.2.2.2 (by decide) rfl (by decide) ?_
        refine aw_aload_n (q := 110) gdJ6_getChars_ba4f3_109.1 rfl 2 rfl ?_
        refine aw_iinc (q := 113) (v := ((l5 + (-1 : Int32)) + (-1 : Int32))) (lv' := [(5, .int ((l5 + (-1 : Int32)) + (-1 : Int32))), (0, .int l0), (2, .ref a), (6, .int (1 : Int32))]) gdJ6_getChars_ba4f3_109.2.1 rfl 0 rfl rfl (by decide) rfl ?_
        refine aw_iload (q := 115) gdJ6_getChars_ba4f3_109.2.2.1 rfl 0 rfl ?_
        refine aw_bipush (q := 117) (v := 45) gdJ6_getChars_ba4f3_109.2.2.2.1 rfl (by decide) ?_
        refine aw_bast (q := 118) (ws' := [(a, .inl (5, n, .inl (upd (upd f_ (l5 + (-1 : Int32)).toNatClampNeg (vp_nar .byte ((fun j => Int32.ofNat (48 + j % 10)) (-l0).toNatClampNeg))) ((l5 + (-1 : Int32)) + (-1 : Int32)).toNatClampNeg (vp_nar .byte (45 : Int32)))))]) gdJ6_getChars_ba4f3_109.2.2.2.2.1 rfl 0 rfl rfl ?_
        refine aw_iload (q := 120) gdJ6_getChars_ba4f3_109.2.2.2.2.2.1 rfl 0 rfl ?_
        exact aw_ireturn (w := [(a, .inl (5, n, .inl (upd (upd f_ (l5 + (-1 : Int32)).toNatClampNeg (vp_nar .byte ((fun j => Int32.ofNat (48 + j % 10)) (-l0).toNatClampNeg))) ((l5 + (-1 : Int32)) + (-1 : Int32)).toNatClampNeg (vp_nar .byte (45 : Int32)))))]) [0] gdJ6_getChars_ba4f3_109.2.2.2.2.2.2 rfl rfl rfl rfl (PN.mk (fun _ => 0) rfl rfl)
      · refine aw_aload_n (q := 92) gdJ6_getChars_ba4f3_82.2.2.2.2.2.2.1 rfl 2 rfl ?_
        refine aw_iinc (q := 95) (v := ((l5 + (-1 : Int32)) + (-1 : Int32))) (lv' := [(5, .int ((l5 + (-1 : Int32)) + (-1 : Int32))), (0, .int l0), (2, .ref a), (6, .int (1 : Int32))]) gdJ6_getChars_ba4f3_82.2.2.2.2.2.2.2 rfl 0 rfl rfl (by decide) rfl ?_
        refine aw_iload (q := 97) gdJ6_getChars_ba4f3_95.1 rfl 0 rfl ?_
        refine aw_tab1 (q := 103) (S := "DigitTens") (tb := (fun j => Int32.ofNat (48 + j / 10))) gdJ6_getChars_ba4f3_95.2.1 gdJ6_getChars_ba4f3_95.2.2.1 gdJ6_getChars_ba4f3_95.2.2.2.1 gdJ6_getChars_ba4f3_95.2.2.2.2.1 rfl gs_J6_87 (List.mem_of_getElem? (i := 1) rfl) 1 rfl ?_
        refine aw_bast (q := 104) (ws' := [(a, .inl (5, n, .inl (upd (upd f_ (l5 + (-1 : Int32)).toNatClampNeg (vp_nar .byte ((fun j => Int32.ofNat (48 + j % 10)) (-l0).toNatClampNeg))) ((l5 + (-1 : Int32)) + (-1 : Int32)).toNatClampNeg (vp_nar .byte ((fun j => Int32.ofNat (48 + j / 10)) (-l0).toNatClampNeg)))))]) gdJ6_getChars_ba4f3_95.2.2.2.2.2.1 rfl 0 rfl rfl ?_
        refine aw_iload (q := 106) gdJ6_getChars_ba4f3_95.2.2.2.2.2.2.1 rfl 3 rfl ?_
        refine aw_if_eqF (q := 109) (off := 12) (tgt := 118) gdJ6_getChars_ba4f3_95.2.2.2.2.2.2.2 (by decide) rfl (by decide) ?_
        refine aw_aload_n (q := 110) gdJ6_getChars_ba4f3_109.1 rfl 2 rfl ?_
        refine aw_iinc (q := 113) (v := (((l5 + (-1 : Int32)) + (-1 : Int32)) + (-1 : Int32))) (lv' := [(5, .int (((l5 + (-1 : Int32)) + (-1 : Int32)) + (-1 : Int32))), (0, .int l0), (2, .ref a), (6, .int (1 : Int32))]) gdJ6_getChars_ba4f3_109.2.1 rfl 0 rfl rfl (by decide) rfl ?_
        refine aw_iload (q := 115) gdJ6_getChars_ba4f3_109.2.2.1 rfl 0 rfl ?_
        refine aw_bipush (q := 117) (v := 45) gdJ6_getChars_ba4f3_109.2.2.2.1 rfl (by decide) ?_
        refine aw_bast (q := 118) (ws' := [(a, .inl (5, n, .inl (upd (upd (upd f_ (l5 + (-1 : Int32)).toNatClampNeg (vp_nar .byte ((fun j => Int32.ofNat (48 + j % 10)) (-l0).toNatClampNeg))) ((l5 + (-1 : Int32)) + (-1 : Int32)).toNatClampNeg (vp_nar .byte ((fun j => Int32.ofNat (48 + j / 10)) (-l0).toNatClampNeg))) (((l5 + (-1 : Int32)) + (-1 : Int32)) + (-1 : Int32)).toNatClampNeg (vp_nar .byte (45 : Int32)))))]) gdJ6_getChars_ba4f3_109.2.2.2.2.1 rfl 0 rfl rfl ?_
        refine aw_iload (q := 120) gdJ6_getChars_ba4f3_109.2.2.2.2.2.1 rfl 0 rfl ?_
        exact aw_ireturn (w := [(a, .inl (5, n, .inl (upd (upd (upd f_ (l5 + (-1 : Int32)).toNatClampNeg (vp_nar .byte ((fun j => Int32.ofNat (48 + j % 10)) (-l0).toNatClampNeg))) ((l5 + (-1 : Int32)) + (-1 : Int32)).toNatClampNeg (vp_nar .byte ((fun j => Int32.ofNat (48 + j / 10)) (-l0).toNatClampNeg))) (((l5 + (-1 : Int32)) + (-1 : Int32)) + (-1 : Int32)).toNatClampNeg (vp_nar .byte (45 : Int32)))))]) [0] gdJ6_getChars_ba4f3_109.2.2.2.2.2.2 rfl rfl rfl rfl (PN.mk (fun _ => 0) rfl rfl)
    · refine aw_iload_n (q := 29) gdJ6_getChars_ba4f3_28.1 rfl 0 rfl ?_
      refine aw_bipush (q := 31) (v := 100) gdJ6_getChars_ba4f3_28.2.1 rfl (by decide) ?_
      refine aw_idivT (q := 32) gdJ6_getChars_ba4f3_28.2.2.1 rfl (by decide) ?_
      refine aw_istore_n (q := 33) (lv' := [(3, .int (l0 / (100 : Int32))), (0, .int l0), (2, .ref a), (5, .int l5), (6, .int (1 : Int32))]) gdJ6_getChars_ba4f3_28.2.2.2.1 rfl (by decide) rfl ?_
      refine aw_iload_n (q := 34) gdJ6_getChars_ba4f3_28.2.2.2.2.1 rfl 0 rfl ?_
      refine aw_bipush (q := 36) (v := 100) gdJ6_getChars_ba4f3_28.2.2.2.2.2.1 rfl (by decide) ?_
      refine aw_imul (q := 37) gdJ6_getChars_ba4f3_28.2.2.2.2.2.2.1 rfl ?_
      refine aw_iload_n (q := 38) gdJ6_getChars_ba4f3_28.2.2.2.2.2.2.2 rfl 1 rfl ?_
      refine aw_isub (q := 39) gdJ6_getChars_ba4f3_38.1 rfl ?_
      refine aw_istore (q := 41) (lv' := [(4, .int (((l0 / (100 : Int32)) * (100 : Int32)) - l0)), (3, .int (l0 / (100 : Int32))), (0, .int l0), (2, .ref a), (5, .int l5), (6, .int (1 : Int32))]) gdJ6_getChars_ba4f3_38.2.1 rfl (by decide) rfl ?_
      refine aw_iload_n (q := 42) gdJ6_getChars_ba4f3_38.2.2.1 rfl 1 rfl ?_
      refine aw_istore_n (q := 43) (lv' := [(0, .int (l0 / (100 : Int32))), (4, .int (((l0 / (100 : Int32)) * (100 : Int32)) - l0)), (3, .int (l0 / (100 : Int32))), (2, .ref a), (5, .int l5), (6, .int (1 : Int32))]) gdJ6_getChars_ba4f3_38.2.2.2.1 rfl (by decide) rfl ?_
      refine aw_aload_n (q := 44) gdJ6_getChars_ba4f3_38.2.2.2.2.1 rfl 3 rfl ?_
      refine aw_iinc (q := 47) (v := (l5 + (-1 : Int32))) (lv' := [(5, .int (l5 + (-1 : Int32))), (0, .int (l0 / (100 : Int32))), (4, .int (((l0 / (100 : Int32)) * (100 : Int32)) - l0)), (3, .int (l0 / (100 : Int32))), (2, .ref a), (6, .int (1 : Int32))]) gdJ6_getChars_ba4f3_38.2.2.2.2.2.1 rfl 4 rfl rfl (by decide) rfl ?_
      refine aw_iload (q := 49) gdJ6_getChars_ba4f3_38.2.2.2.2.2.2.1 rfl 0 rfl ?_
      refine aw_tab2 (q := 55) (S := "DigitOnes") (tb := (fun j => Int32.ofNat (48 + j % 10))) gdJ6_getChars_ba4f3_38.2.2.2.2.2.2.2 gdJ6_getChars_ba4f3_52.1 gdJ6_getChars_ba4f3_52.2.1 rfl gs_J6_83 (List.mem_of_getElem? (i := 0) rfl) 2 rfl ?_
      refine aw_bast (q := 56) (ws' := [(a, .inl (5, n, .inl (upd f_ (l5 + (-1 : Int32)).toNatClampNeg (vp_nar .byte ((fun j => Int32.ofNat (48 + j % 10)) (((l0 / (100 : Int32)) * (100 : Int32)) - l0).toNatClampNeg)))))]) gdJ6_getChars_ba4f3_52.2.2.1 rfl 0 rfl rfl ?_
      refine aw_aload_n (q := 57) gdJ6_getChars_ba4f3_52.2.2.2.1 rfl 4 rfl ?_
      refine aw_iinc (q := 60) (v := ((l5 + (-1 : Int32)) + (-1 : Int32))) (lv' := [(5, .int ((l5 + (-1 : Int32)) + (-1 : Int32))), (0, .int (l0 / (100 : Int32))), (4, .int (((l0 / (100 : Int32)) * (100 : Int32)) - l0)), (3, .int (l0 / (100 : Int32))), (2, .ref a), (6, .int (1 : Int32))]) gdJ6_getChars_ba4f3_52.2.2.2.2.1 rfl 0 rfl rfl (by decide) rfl ?_
      refine aw_iload (q := 62) gdJ6_getChars_ba4f3_52.2.2.2.2.2.1 rfl 0 rfl ?_
      refine aw_tab2 (q := 68) (S := "DigitTens") (tb := (fun j => Int32.ofNat (48 + j / 10))) gdJ6_getChars_ba4f3_52.2.2.2.2.2.2.1 gdJ6_getChars_ba4f3_52.2.2.2.2.2.2.2 gdJ6_getChars_ba4f3_67.1 rfl gs_J6_87 (List.mem_of_getElem? (i := 1) rfl) 2 rfl ?_
      refine aw_bast (q := 69) (ws' := [(a, .inl (5, n, .inl (upd (upd f_ (l5 + (-1 : Int32)).toNatClampNeg (vp_nar .byte ((fun j => Int32.ofNat (48 + j % 10)) (((l0 / (100 : Int32)) * (100 : Int32)) - l0).toNatClampNeg))) ((l5 + (-1 : Int32)) + (-1 : Int32)).toNatClampNeg (vp_nar .byte ((fun j => Int32.ofNat (48 + j / 10)) (((l0 / (100 : Int32)) * (100 : Int32)) - l0).toNatClampNeg)))))]) gdJ6_getChars_ba4f3_67.2.1 rfl 0 rfl rfl ?_
      refine aw_goto (tgt := 22) gdJ6_getChars_ba4f3_67.2.2.1 (by decide) ?_
      refine aw_locals (lv' := [(0, .int (l0 / (100 : Int32))), (2, .ref a), (5, .int ((l5 + (-1 : Int32)) + (-1 : Int32))), (6, .int (1 : Int32))]) [1, 4, 0, 5] rfl ?_
      exact ih _ _ _
def fJ_getChars (N K : Nat) (n : Nat) (f : Nat → Int32) (p0 : Int32) (p1 : Int32) : Option (Int32 × (Nat → Int32)) :=
  (if 0 ≤ p0 then fJ_getChars_22 N K n f p0 p1  N (-p0) p1 f else fJ_getChars_22v N K n f p0 p1  N p0 p1 f)
set_option maxHeartbeats 4000000 in
set_option maxRecDepth 100000 in
theorem ok_J_getChars {N K : Nat} {a : Nat} {n : Nat} {f : Nat → Int32} {p0 : Int32} {p1 : Int32} {xr : Int32 × (Nat → Int32)} (hE : fJ_getChars N K n f p0 p1 = some xr) : OkM yJ6_getChars_ba4f3 (.code yJ6_getChars_ba4f3 cJ6_getChars_ba4f3 7 (some .int)) (0) 0 0 [.int p0, .int p1, .ref a] [(a, .inl (5, n, .inl f))] ((PN (U := Int32 × (Nat → Int32)) (fun zz _ => some (.int zz.1)) (fun zz ad => [(a, .inl (5, n, .inl zz.2))])) xr) := by
  refine ok_of (by decide) (Nat.le_of_ble_eq_true rfl) hE ?_
  refine aw_locals (lv' := [(0, .int p0), (1, .int p1), (2, .ref a)]) [0, 1, 2] rfl ?_
  refine aw_iload_n (q := 1) gdJ6_getChars_ba4f3_0.1 rfl 1 rfl ?_
  refine aw_istore (q := 3) (lv' := [(5, .int p1), (0, .int p0), (1, .int p1), (2, .ref a)]) gdJ6_getChars_ba4f3_0.2.1 rfl (by decide) rfl ?_
  refine aw_iload_n (q := 4) gdJ6_getChars_ba4f3_0.2.2.1 rfl 1 rfl ?_
  refine aw_if_ge (tgt := 11) (q := 7) gdJ6_getChars_ba4f3_0.2.2.2.1 (by decide) rfl (fun h_4 => ?_) (fun h_4 => ?_)
  · refine aw_iconst (q := 12) (v := 0) gdJ6_getChars_ba4f3_0.2.2.2.2.2.2.1 rfl (by decide) ?_
    refine aw_istore (q := 14) (lv' := [(6, .int (0 : Int32)), (5, .int p1), (0, .int p0), (1, .int p1), (2, .ref a)]) gdJ6_getChars_ba4f3_0.2.2.2.2.2.2.2 rfl (by decide) rfl ?_
    refine aw_iload (q := 16) gdJ6_getChars_ba4f3_14.1 rfl 0 rfl ?_
    refine aw_if_neF (q := 19) (off := 6) (tgt := 22) gdJ6_getChars_ba4f3_14.2.1 (by decide) rfl (by decide) ?_
    refine aw_iload_n (q := 20) gdJ6_getChars_ba4f3_14.2.2.1 rfl 2 rfl ?_
    refine aw_ineg (q := 21) gdJ6_getChars_ba4f3_14.2.2.2.1 rfl ?_
    refine aw_istore_n (q := 22) (lv' := [(0, .int (-p0)), (6, .int (0 : Int32)), (5, .int p1), (1, .int p1), (2, .ref a)]) gdJ6_getChars_ba4f3_14.2.2.2.2.1 rfl (by decide) rfl ?_
    refine aw_locals (lv' := [(0, .int (-p0)), (2, .ref a), (5, .int p1), (6, .int (0 : Int32))]) [0, 4, 2, 1] rfl ?_
    exact tJ_getChars_22  N _ _ _
  · refine aw_iconst (q := 8) (v := 1) gdJ6_getChars_ba4f3_0.2.2.2.2.1 rfl (by decide) ?_
    refine aw_goto (tgt := 12) gdJ6_getChars_ba4f3_0.2.2.2.2.2.1 (by decide) ?_
    refine aw_istore (q := 14) (lv' := [(6, .int (1 : Int32)), (5, .int p1), (0, .int p0), (1, .int p1), (2, .ref a)]) gdJ6_getChars_ba4f3_0.2.2.2.2.2.2.2 rfl (by decide) rfl ?_
    refine aw_iload (q := 16) gdJ6_getChars_ba4f3_14.1 rfl 0 rfl ?_
    refine aw_if_neT (tgt := 22) gdJ6_getChars_ba4f3_14.2.1 (by decide) (by decide) ?_
    refine aw_locals (lv' := [(0, .int p0), (2, .ref a), (5, .int p1), (6, .int (1 : Int32))]) [2, 4, 1, 0] rfl ?_
    exact tJ_getChars_22v  N _ _ _
def fJ_appendC5 (N K : Nat) (cnt : Int32) (n : Nat) (f : Nat → Int32) (p0 : Int32) : Option (Int32 × Nat × (Nat → Int32)) :=
  ((fJ_ensure N K cnt n f (cnt + (1 : Int32))).bind (fun x7 => ((fJ_isLatin1 N K cnt x7.1 x7.2).bind (fun x11 => (if x11 = 0 then ((fJ_isLatin1 N K cnt x7.1 x7.2).bind (fun x46 => (if x46 = 0 then none else none))) else ((fJ_canEncode N K p0).bind (fun x18 => (if x18 = 0 then ((fJ_isLatin1 N K cnt x7.1 x7.2).bind (fun x46_1 => (if x46_1 = 0 then none else none))) else (if cnt < 0 ∨ x7.1 ≤ cnt.toNatClampNeg then none else (some ((cnt + (1 : Int32)), x7.1, (upd x7.2 cnt.toNatClampNeg (vp_nar .byte p0.toInt8.toInt32)))))))))))))
set_option maxHeartbeats 4000000 in
set_option maxRecDepth 100000 in
theorem ok_J_appendC5 {N K : Nat} {b v : Nat} {cnt : Int32} {n : Nat} {f : Nat → Int32} {p0 : Int32} {xr : Int32 × Nat × (Nat → Int32)} (hE : fJ_appendC5 N K cnt n f p0 = some xr) : OkM yJ5_append_3fe6f (.code yJ5_append_3fe6f cJ5_append_3fe6f 2 (some (.object "java/lang/AbstractStringBuilder"))) (4) 1 80 [.ref b, .int p0] [(b, .inr (1, [.ref v, .int (0 : Int32), .int (0 : Int32), .int cnt])), (v, .inl (5, n, .inl f))] ((PN (U := Int32 × Nat × (Nat → Int32)) (fun _ _ => some (.ref b)) (fun zz ad => [(b, .inr (1, [.ref (ad 0), .int (0 : Int32), .int (0 : Int32), .int zz.1])), ((ad 0), .inl (5, zz.2.1, .inl zz.2.2))])) xr) := by
  refine ok_of (by decide) (Nat.le_of_ble_eq_true rfl) hE ?_
  refine aw_locals (lv' := [(0, .ref b), (1, .int p0)]) [0, 1] rfl ?_
  refine aw_aload_n (q := 1) gdJ5_append_3fe6f_0.1 rfl 0 rfl ?_
  refine aw_aload_n (q := 2) gdJ5_append_3fe6f_0.2.1 rfl 0 rfl ?_
  refine aw_get (q := 5) gdJ5_append_3fe6f_0.2.2.1 rfl fl_J5_79 0 rfl rfl ?_
  refine aw_iconst (q := 6) (v := 1) gdJ5_append_3fe6f_0.2.2.2.1 rfl (by decide) ?_
  refine aw_iadd (q := 7) gdJ5_append_3fe6f_0.2.2.2.2.1 rfl ?_
  refine aw_call (q := 10) (kc1 := 0) (ks1 := 0) (wc := [(b, .inr (1, [.ref v, .int (0 : Int32), .int (0 : Int32), .int cnt])), (v, .inl (5, n, .inl f))]) (wr := []) (st1 := fun x7 g7 => []) (ws1 := fun x7 g7 => [(b, .inr (1, [.ref (g7 0), .int (0 : Int32), .int (0 : Int32), .int cnt])), ((g7 0), .inl (5, x7.1, .inl x7.2))]) (As := [.ref b, .int (cnt + (1 : Int32))]) [0, 1] [] (fun _ => runU (q0 := 0) gdJ5_append_3fe6f_0.2.2.2.2.2.1 mi_J5_ensureCapacityInternal_d00df im_J5_ensureCapacityInternal_d00df (fun _ _ h9 h8 => sel_sub (h9 _ su_J5_isLatin1_aae02) rfl (by decide +kernel) (NGW_use pv_J5_ensureCapacityInternal_d00df (h8 _ pv_J5_ensureCapacityInternal_d00df)) (h9 _ im_J5_ensureCapacityInternal_d00df)) sm_J5_ensureCapacityInternal_d00df im_J5_ensureCapacityInternal_d00df cd_J5_ensureCapacityInternal_d00df ml_J5_100 (by decide +kernel) (by omega) rfl (Nat.le_of_ble_eq_true rfl) rfl rfl rfl rfl) (fun x9 h9 => ok_J_ensure h9) rfl rfl rfl rfl rfl (by decide +kernel) (by omega) (by omega) (fun _ _ => rfl) (fun _ _ => rfl) (fun x7 g7 => ?_)
  refine aw_aload_n (q := 11) gdJ5_append_3fe6f_0.2.2.2.2.2.2.1 rfl 0 rfl ?_
  refine aw_call (q := 14) (kc1 := 0) (ks1 := 0) (wc := [(b, .inr (1, [.ref (g7 0), .int (0 : Int32), .int (0 : Int32), .int cnt])), ((g7 0), .inl (5, x7.1, .inl x7.2))]) (wr := []) (st1 := fun x11 g11 => [.int x11]) (ws1 := fun x11 g11 => [(b, .inr (1, [.ref (g7 0), .int (0 : Int32), .int (0 : Int32), .int cnt])), ((g7 0), .inl (5, x7.1, .inl x7.2))]) (As := [.ref b]) [0, 1] [] (fun _ => runU (q0 := 0) gdJ5_append_3fe6f_0.2.2.2.2.2.2.2 mi_J5_isLatin1_aae02 im_J5_isLatin1_aae02 (fun _ _ h9 _ => h9 _ su_J5_isLatin1_aae02) sm_J5_isLatin1_aae02 im_J5_isLatin1_aae02 cd_J5_isLatin1_aae02 ml_J5_83 (by decide +kernel) (by omega) rfl (Nat.le_of_ble_eq_true rfl) rfl rfl rfl rfl) (fun x9 h9 => ok_J_isLatin1 h9) rfl rfl rfl rfl rfl (by decide +kernel) (by omega) (by omega) (fun _ _ => rfl) (fun _ _ => rfl) (fun x11 g11 => ?_)
  refine aw_if_eq (tgt := 45) (q := 17) gdJ5_append_3fe6f_14.1 (by decide) rfl (fun h_14 => ?_) (fun h_14 => ?_)
  · refine aw_aload_n (q := 46) gdJ5_append_3fe6f_42.2.1 rfl 0 rfl ?_
    refine aw_call (q := 49) (kc1 := 0) (ks1 := 0) (wc := [(b, .inr (1, [.ref (g7 0), .int (0 : Int32), .int (0 : Int32), .int cnt])), ((g7 0), .inl (5, x7.1, .inl x7.2))]) (wr := []) (st1 := fun x46 g46 => [.int x46]) (ws1 := fun x46 g46 => [(b, .inr (1, [.ref (g7 0), .int (0 : Int32), .int (0 : Int32), .int cnt])), ((g7 0), .inl (5, x7.1, .inl x7.2))]) (As := [.ref b]) [0, 1] [] (fun _ => runU (q0 := 0) gdJ5_append_3fe6f_42.2.2.1 mi_J5_isLatin1_aae02 im_J5_isLatin1_aae02 (fun _ _ h9 _ => h9 _ su_J5_isLatin1_aae02) sm_J5_isLatin1_aae02 im_J5_isLatin1_aae02 cd_J5_isLatin1_aae02 ml_J5_83 (by decide +kernel) (by omega) rfl (Nat.le_of_ble_eq_true rfl) rfl rfl rfl rfl) (fun x9 h9 => ok_J_isLatin1 h9) rfl rfl rfl rfl rfl (by decide +kernel) (by omega) (by omega) (fun _ _ => rfl) (fun _ _ => rfl) (fun x46 g46 => ?_)
    refine aw_if_eq (tgt := 56) (q := 52) gdJ5_append_3fe6f_42.2.2.2.1 (by decide) rfl (fun h_49 => ?_) (fun h_49 => ?_)
    · refine aw_aload_n (q := 57) gdJ5_append_3fe6f_42.2.2.2.2.2.1 rfl 0 rfl ?_
      refine aw_get (q := 60) gdJ5_append_3fe6f_42.2.2.2.2.2.2.1 rfl fl_J5_15 0 rfl rfl ?_
      refine aw_aload_n (q := 61) gdJ5_append_3fe6f_42.2.2.2.2.2.2.2 rfl 0 rfl ?_
      refine aw_dup (q := 62) gdJ5_append_3fe6f_61.1 rfl rfl ?_
      refine aw_get (q := 65) gdJ5_append_3fe6f_61.2.1 rfl fl_J5_79 0 rfl rfl ?_
      refine aw_dup_x1 (q := 66) gdJ5_append_3fe6f_61.2.2.1 rfl rfl rfl ?_
      refine aw_iconst (q := 67) (v := 1) gdJ5_append_3fe6f_61.2.2.2.1 rfl (by decide) ?_
      refine aw_iadd (q := 68) gdJ5_append_3fe6f_61.2.2.2.2.1 rfl ?_
      refine aw_put (q := 71) (ws' := [(b, .inr (1, [.ref (g7 0), .int (0 : Int32), .int (0 : Int32), .int (cnt + (1 : Int32))])), ((g7 0), .inl (5, x7.1, .inl x7.2))]) gdJ5_append_3fe6f_61.2.2.2.2.2.1 rfl fl_J5_79 0 rfl rfl rfl (Nat.le_of_ble_eq_true rfl) rfl ?_
      refine aw_iload_n (q := 72) gdJ5_append_3fe6f_61.2.2.2.2.2.2.1 rfl 1 rfl ?_
      exact aw_none
    · refine aw_aload_n (q := 53) gdJ5_append_3fe6f_42.2.2.2.2.1 rfl 0 rfl ?_
      exact aw_none
  · refine aw_iload_n (q := 18) gdJ5_append_3fe6f_14.2.1 rfl 1 rfl ?_
    refine aw_call (q := 21) (kc1 := 0) (ks1 := 0) (wc := []) (wr := [(b, .inr (1, [.ref (g7 0), .int (0 : Int32), .int (0 : Int32), .int cnt])), ((g7 0), .inl (5, x7.1, .inl x7.2))]) (st1 := fun x18 g18 => [.int x18]) (ws1 := fun x18 g18 => [(b, .inr (1, [.ref (g7 0), .int (0 : Int32), .int (0 : Int32), .int cnt])), ((g7 0), .inl (5, x7.1, .inl x7.2))]) (As := [.int p0]) [] [0, 1] (fun _ => runS gdJ5_append_3fe6f_14.2.2.1 mi_J1_canEncode_fc78d st_J1_canEncode_fc78d ml_J5_191 (by omega) rfl (Nat.le_of_ble_eq_true rfl) rfl) (fun x9 h9 => ok_J_canEncode h9) rfl rfl rfl rfl rfl (by decide +kernel) (by omega) (by omega) (fun _ _ => rfl) (fun _ _ => rfl) (fun x18 g18 => ?_)
    refine aw_if_eq (tgt := 45) (q := 24) gdJ5_append_3fe6f_14.2.2.2.1 (by decide) rfl (fun h_21 => ?_) (fun h_21 => ?_)
    · refine aw_aload_n (q := 46) gdJ5_append_3fe6f_42.2.1 rfl 0 rfl ?_
      refine aw_call (q := 49) (kc1 := 0) (ks1 := 0) (wc := [(b, .inr (1, [.ref (g7 0), .int (0 : Int32), .int (0 : Int32), .int cnt])), ((g7 0), .inl (5, x7.1, .inl x7.2))]) (wr := []) (st1 := fun x46_1 g46_1 => [.int x46_1]) (ws1 := fun x46_1 g46_1 => [(b, .inr (1, [.ref (g7 0), .int (0 : Int32), .int (0 : Int32), .int cnt])), ((g7 0), .inl (5, x7.1, .inl x7.2))]) (As := [.ref b]) [0, 1] [] (fun _ => runU (q0 := 0) gdJ5_append_3fe6f_42.2.2.1 mi_J5_isLatin1_aae02 im_J5_isLatin1_aae02 (fun _ _ h9 _ => h9 _ su_J5_isLatin1_aae02) sm_J5_isLatin1_aae02 im_J5_isLatin1_aae02 cd_J5_isLatin1_aae02 ml_J5_83 (by decide +kernel) (by omega) rfl (Nat.le_of_ble_eq_true rfl) rfl rfl rfl rfl) (fun x9 h9 => ok_J_isLatin1 h9) rfl rfl rfl rfl rfl (by decide +kernel) (by omega) (by omega) (fun _ _ => rfl) (fun _ _ => rfl) (fun x46_1 g46_1 => ?_)
      refine aw_if_eq (tgt := 56) (q := 52) gdJ5_append_3fe6f_42.2.2.2.1 (by decide) rfl (fun h_49 => ?_) (fun h_49 => ?_)
      · refine aw_aload_n (q := 57) gdJ5_append_3fe6f_42.2.2.2.2.2.1 rfl 0 rfl ?_
        refine aw_get (q := 60) gdJ5_append_3fe6f_42.2.2.2.2.2.2.1 rfl fl_J5_15 0 rfl rfl ?_
        refine aw_aload_n (q := 61) gdJ5_append_3fe6f_42.2.2.2.2.2.2.2 rfl 0 rfl ?_
        refine aw_dup (q := 62) gdJ5_append_3fe6f_61.1 rfl rfl ?_
        refine aw_get (q := 65) gdJ5_append_3fe6f_61.2.1 rfl fl_J5_79 0 rfl rfl ?_
        refine aw_dup_x1 (q := 66) gdJ5_append_3fe6f_61.2.2.1 rfl rfl rfl ?_
        refine aw_iconst (q := 67) (v := 1) gdJ5_append_3fe6f_61.2.2.2.1 rfl (by decide) ?_
        refine aw_iadd (q := 68) gdJ5_append_3fe6f_61.2.2.2.2.1 rfl ?_
        refine aw_put (q := 71) (ws' := [(b, .inr (1, [.ref (g7 0), .int (0 : Int32), .int (0 : Int32), .int (cnt + (1 : Int32))])), ((g7 0), .inl (5, x7.1, .inl x7.2))]) gdJ5_append_3fe6f_61.2.2.2.2.2.1 rfl fl_J5_79 0 rfl rfl rfl (Nat.le_of_ble_eq_true rfl) rfl ?_
        refine aw_iload_n (q := 72) gdJ5_append_3fe6f_61.2.2.2.2.2.2.1 rfl 1 rfl ?_
        exact aw_none
      · refine aw_aload_n (q := 53) gdJ5_append_3fe6f_42.2.2.2.2.1 rfl 0 rfl ?_
        exact aw_none
    · refine aw_aload_n (q := 25) gdJ5_append_3fe6f_14.2.2.2.2.1 rfl 0 rfl ?_
      refine aw_get (q := 28) gdJ5_append_3fe6f_14.2.2.2.2.2.1 rfl fl_J5_15 0 rfl rfl ?_
      refine aw_aload_n (q := 29) gdJ5_append_3fe6f_14.2.2.2.2.2.2.1 rfl 0 rfl ?_
      refine aw_dup (q := 30) gdJ5_append_3fe6f_14.2.2.2.2.2.2.2 rfl rfl ?_
      refine aw_get (q := 33) gdJ5_append_3fe6f_30.1 rfl fl_J5_79 0 rfl rfl ?_
      refine aw_dup_x1 (q := 34) gdJ5_append_3fe6f_30.2.1 rfl rfl rfl ?_
      refine aw_iconst (q := 35) (v := 1) gdJ5_append_3fe6f_30.2.2.1 rfl (by decide) ?_
      refine aw_iadd (q := 36) gdJ5_append_3fe6f_30.2.2.2.1 rfl ?_
      refine aw_put (q := 39) (ws' := [(b, .inr (1, [.ref (g7 0), .int (0 : Int32), .int (0 : Int32), .int (cnt + (1 : Int32))])), ((g7 0), .inl (5, x7.1, .inl x7.2))]) gdJ5_append_3fe6f_30.2.2.2.2.1 rfl fl_J5_79 0 rfl rfl rfl (Nat.le_of_ble_eq_true rfl) rfl ?_
      refine aw_iload_n (q := 40) gdJ5_append_3fe6f_30.2.2.2.2.2.1 rfl 1 rfl ?_
      refine aw_i2b (q := 41) gdJ5_append_3fe6f_30.2.2.2.2.2.2.1 rfl ?_
      refine aw_bast (q := 42) (ws' := [(b, .inr (1, [.ref (g7 0), .int (0 : Int32), .int (0 : Int32), .int (cnt + (1 : Int32))])), ((g7 0), .inl (5, x7.1, .inl (upd x7.2 cnt.toNatClampNeg (vp_nar .byte p0.toInt8.toInt32))))]) gdJ5_append_3fe6f_30.2.2.2.2.2.2.2 rfl 1 rfl rfl ?_
      refine aw_goto (tgt := 75) gdJ5_append_3fe6f_42.1 (by decide) ?_
      refine aw_aload_n (q := 76) gdJ5_append_3fe6f_61.2.2.2.2.2.2.2 rfl 0 rfl ?_
      exact aw_areturn (w := [(b, .inr (1, [.ref (g7 0), .int (0 : Int32), .int (0 : Int32), .int (cnt + (1 : Int32))])), ((g7 0), .inl (5, x7.1, .inl (upd x7.2 cnt.toNatClampNeg (vp_nar .byte p0.toInt8.toInt32))))]) [0, 1] dJ5_append_3fe6f_76 rfl (Or.inl ⟨_, rfl⟩) rfl rfl (PN.mk (fun j => if j = 0 then (g7 0) else 0) rfl rfl)
def fJ_appendI5 (N K : Nat) (cnt : Int32) (n : Nat) (f : Nat → Int32) (p0 : Int32) : Option (Int32 × Nat × (Nat → Int32)) :=
  ((fJ_size N K p0).bind (fun x7 => ((fJ_ensure N K cnt n f (cnt + x7)).bind (fun x14 => ((fJ_isLatin1 N K cnt x14.1 x14.2).bind (fun x18 => (if x18 = 0 then none else ((fJ_getChars N K x14.1 x14.2 p0 (cnt + x7)).bind (fun x30 => (some ((cnt + x7), x14.1, x30.2)))))))))))
set_option maxHeartbeats 4000000 in
set_option maxRecDepth 100000 in
theorem ok_J_appendI5 {N K : Nat} {b v : Nat} {cnt : Int32} {n : Nat} {f : Nat → Int32} {p0 : Int32} {xr : Int32 × Nat × (Nat → Int32)} (hE : fJ_appendI5 N K cnt n f p0 = some xr) : OkM yJ5_append_c97b9 (.code yJ5_append_c97b9 cJ5_append_c97b9 4 (some (.object "java/lang/AbstractStringBuilder"))) (4) 1 80 [.ref b, .int p0] [(b, .inr (1, [.ref v, .int (0 : Int32), .int (0 : Int32), .int cnt])), (v, .inl (5, n, .inl f))] ((PN (U := Int32 × Nat × (Nat → Int32)) (fun _ _ => some (.ref b)) (fun zz ad => [(b, .inr (1, [.ref (ad 0), .int (0 : Int32), .int (0 : Int32), .int zz.1])), ((ad 0), .inl (5, zz.2.1, .inl zz.2.2))])) xr) := by
  refine ok_of (by decide) (Nat.le_of_ble_eq_true rfl) hE ?_
  refine aw_locals (lv' := [(0, .ref b), (1, .int p0)]) [0, 1] rfl ?_
  refine aw_aload_n (q := 1) gdJ5_append_c97b9_0.1 rfl 0 rfl ?_
  refine aw_get (q := 4) gdJ5_append_c97b9_0.2.1 rfl fl_J5_79 0 rfl rfl ?_
  refine aw_istore_n (q := 5) (lv' := [(2, .int cnt), (0, .ref b), (1, .int p0)]) gdJ5_append_c97b9_0.2.2.1 rfl (by decide) rfl ?_
  refine aw_iload_n (q := 6) gdJ5_append_c97b9_0.2.2.2.1 rfl 0 rfl ?_
  refine aw_iload_n (q := 7) gdJ5_append_c97b9_0.2.2.2.2.1 rfl 2 rfl ?_
  refine aw_call (q := 10) (kc1 := 1) (ks1 := 80) (wc := []) (wr := [(b, .inr (1, [.ref v, .int (0 : Int32), .int (0 : Int32), .int cnt])), (v, .inl (5, n, .inl f))]) (st1 := fun x7 g7 => [.int x7, .int cnt]) (ws1 := fun x7 g7 => [(b, .inr (1, [.ref v, .int (0 : Int32), .int (0 : Int32), .int cnt])), (v, .inl (5, n, .inl f))]) (As := [.int p0]) [] [0, 1] (fun _ => runS gdJ5_append_c97b9_0.2.2.2.2.2.1 mi_J6_stringSize_0f7a4 st_J6_stringSize_0f7a4 ml_J5_245 (by omega) rfl (Nat.le_of_ble_eq_true rfl) rfl) (fun x9 h9 => ok_J_size h9) rfl rfl rfl rfl rfl (by decide +kernel) (by omega) (by omega) (fun _ _ => rfl) (fun _ _ => rfl) (fun x7 g7 => ?_)
  refine aw_iadd (q := 11) gdJ5_append_c97b9_0.2.2.2.2.2.2.1 rfl ?_
  refine aw_istore_n (q := 12) (lv' := [(3, .int (cnt + x7)), (2, .int cnt), (0, .ref b), (1, .int p0)]) gdJ5_append_c97b9_0.2.2.2.2.2.2.2 rfl (by decide) rfl ?_
  refine aw_aload_n (q := 13) gdJ5_append_c97b9_12.1 rfl 2 rfl ?_
  refine aw_iload_n (q := 14) gdJ5_append_c97b9_12.2.1 rfl 0 rfl ?_
  refine aw_call (q := 17) (kc1 := 0) (ks1 := 0) (wc := [(b, .inr (1, [.ref v, .int (0 : Int32), .int (0 : Int32), .int cnt])), (v, .inl (5, n, .inl f))]) (wr := []) (st1 := fun x14 g14 => []) (ws1 := fun x14 g14 => [(b, .inr (1, [.ref (g14 0), .int (0 : Int32), .int (0 : Int32), .int cnt])), ((g14 0), .inl (5, x14.1, .inl x14.2))]) (As := [.ref b, .int (cnt + x7)]) [0, 1] [] (fun _ => runU (q0 := 0) gdJ5_append_c97b9_12.2.2.1 mi_J5_ensureCapacityInternal_d00df im_J5_ensureCapacityInternal_d00df (fun _ _ h9 h8 => sel_sub (h9 _ su_J5_isLatin1_aae02) rfl (by decide +kernel) (NGW_use pv_J5_ensureCapacityInternal_d00df (h8 _ pv_J5_ensureCapacityInternal_d00df)) (h9 _ im_J5_ensureCapacityInternal_d00df)) sm_J5_ensureCapacityInternal_d00df im_J5_ensureCapacityInternal_d00df cd_J5_ensureCapacityInternal_d00df ml_J5_100 (by decide +kernel) (by omega) rfl (Nat.le_of_ble_eq_true rfl) rfl rfl rfl rfl) (fun x9 h9 => ok_J_ensure h9) rfl rfl rfl rfl rfl (by decide +kernel) (by omega) (by omega) (fun _ _ => rfl) (fun _ _ => rfl) (fun x14 g14 => ?_)
  refine aw_aload_n (q := 18) gdJ5_append_c97b9_12.2.2.2.1 rfl 2 rfl ?_
  refine aw_call (q := 21) (kc1 := 0) (ks1 := 0) (wc := [(b, .inr (1, [.ref (g14 0), .int (0 : Int32), .int (0 : Int32), .int cnt])), ((g14 0), .inl (5, x14.1, .inl x14.2))]) (wr := []) (st1 := fun x18 g18 => [.int x18]) (ws1 := fun x18 g18 => [(b, .inr (1, [.ref (g14 0), .int (0 : Int32), .int (0 : Int32), .int cnt])), ((g14 0), .inl (5, x14.1, .inl x14.2))]) (As := [.ref b]) [0, 1] [] (fun _ => runU (q0 := 0) gdJ5_append_c97b9_12.2.2.2.2.1 mi_J5_isLatin1_aae02 im_J5_isLatin1_aae02 (fun _ _ h9 _ => h9 _ su_J5_isLatin1_aae02) sm_J5_isLatin1_aae02 im_J5_isLatin1_aae02 cd_J5_isLatin1_aae02 ml_J5_83 (by decide +kernel) (by omega) rfl (Nat.le_of_ble_eq_true rfl) rfl rfl rfl rfl) (fun x9 h9 => ok_J_isLatin1 h9) rfl rfl rfl rfl rfl (by decide +kernel) (by omega) (by omega) (fun _ _ => rfl) (fun _ _ => rfl) (fun x18 g18 => ?_)
  refine aw_if_eq (tgt := 37) (q := 24) gdJ5_append_c97b9_12.2.2.2.2.2.1 (by decide) rfl (fun h_21 => ?_) (fun h_21 => ?_)
  · refine aw_iload_n (q := 38) gdJ5_append_c97b9_26.2.2.2.2.2.1 rfl 3 rfl ?_
    refine aw_iload_n (q := 39) gdJ5_append_c97b9_26.2.2.2.2.2.2.1 rfl 1 rfl ?_
    refine aw_iload_n (q := 40) gdJ5_append_c97b9_26.2.2.2.2.2.2.2 rfl 0 rfl ?_
    refine aw_aload_n (q := 41) gdJ5_append_c97b9_40.1 rfl 2 rfl ?_
    refine aw_get (q := 44) gdJ5_append_c97b9_40.2.1 rfl fl_J5_15 0 rfl rfl ?_
    exact aw_none
  · refine aw_iload_n (q := 25) gdJ5_append_c97b9_12.2.2.2.2.2.2.1 rfl 3 rfl ?_
    refine aw_iload_n (q := 26) gdJ5_append_c97b9_12.2.2.2.2.2.2.2 rfl 0 rfl ?_
    refine aw_aload_n (q := 27) gdJ5_append_c97b9_26.1 rfl 2 rfl ?_
    refine aw_get (q := 30) gdJ5_append_c97b9_26.2.1 rfl fl_J5_15 0 rfl rfl ?_
    refine aw_call (q := 33) (kc1 := 0) (ks1 := 0) (wc := [((g14 0), .inl (5, x14.1, .inl x14.2))]) (wr := [(b, .inr (1, [.ref (g14 0), .int (0 : Int32), .int (0 : Int32), .int cnt]))]) (st1 := fun x30 g30 => [.int x30.1]) (ws1 := fun x30 g30 => [(b, .inr (1, [.ref (g14 0), .int (0 : Int32), .int (0 : Int32), .int cnt])), ((g14 0), .inl (5, x14.1, .inl x30.2))]) (As := [.int p0, .int (cnt + x7), .ref (g14 0)]) [1] [0] (fun _ => runS gdJ5_append_c97b9_26.2.2.1 mi_J6_getChars_ba4f3 st_J6_getChars_ba4f3 ml_J5_248 (by omega) rfl (Nat.le_of_ble_eq_true rfl) rfl) (fun x9 h9 => ok_J_getChars h9) rfl rfl rfl rfl rfl (by decide +kernel) (by omega) (by omega) (fun _ _ => rfl) (fun _ _ => rfl) (fun x30 g30 => ?_)
    refine aw_pop (q := 34) gdJ5_append_c97b9_26.2.2.2.1 rfl rfl ?_
    refine aw_goto (tgt := 48) gdJ5_append_c97b9_26.2.2.2.2.1 (by decide) ?_
    refine aw_aload_n (q := 49) gdJ5_append_c97b9_40.2.2.1 rfl 2 rfl ?_
    refine aw_iload_n (q := 50) gdJ5_append_c97b9_40.2.2.2.1 rfl 0 rfl ?_
    refine aw_put (q := 53) (ws' := [(b, .inr (1, [.ref (g14 0), .int (0 : Int32), .int (0 : Int32), .int (cnt + x7)])), ((g14 0), .inl (5, x14.1, .inl x30.2))]) gdJ5_append_c97b9_40.2.2.2.2.1 rfl fl_J5_79 0 rfl rfl rfl (Nat.le_of_ble_eq_true rfl) rfl ?_
    refine aw_aload_n (q := 54) gdJ5_append_c97b9_40.2.2.2.2.2.1 rfl 2 rfl ?_
    exact aw_areturn (w := [(b, .inr (1, [.ref (g14 0), .int (0 : Int32), .int (0 : Int32), .int (cnt + x7)])), ((g14 0), .inl (5, x14.1, .inl x30.2))]) [0, 1] gdJ5_append_c97b9_40.2.2.2.2.2.2 rfl (Or.inl ⟨_, rfl⟩) rfl rfl (PN.mk (fun j => if j = 0 then (g14 0) else 0) rfl rfl)
def fJ_appendC (N K : Nat) (cnt : Int32) (n : Nat) (f : Nat → Int32) (p0 : Int32) : Option (Int32 × Nat × (Nat → Int32)) :=
  ((fJ_appendC5 N K cnt n f p0).bind (fun x2 => (some (x2.1, x2.2.1, x2.2.2))))
set_option maxHeartbeats 4000000 in
set_option maxRecDepth 100000 in
theorem ok_J_appendC {N K : Nat} {b v : Nat} {cnt : Int32} {n : Nat} {f : Nat → Int32} {p0 : Int32} {xr : Int32 × Nat × (Nat → Int32)} (hE : fJ_appendC N K cnt n f p0 = some xr) : OkM yJ4_append_cf468 (.code yJ4_append_cf468 cJ4_append_cf468 2 (some (.object "java/lang/StringBuilder"))) (5) 1 80 [.ref b, .int p0] [(b, .inr (1, [.ref v, .int (0 : Int32), .int (0 : Int32), .int cnt])), (v, .inl (5, n, .inl f))] ((PN (U := Int32 × Nat × (Nat → Int32)) (fun _ _ => some (.ref b)) (fun zz ad => [(b, .inr (1, [.ref (ad 0), .int (0 : Int32), .int (0 : Int32), .int zz.1])), ((ad 0), .inl (5, zz.2.1, .inl zz.2.2))])) xr) := by
  refine ok_of (by decide) (Nat.le_of_ble_eq_true rfl) hE ?_
  refine aw_locals (lv' := [(0, .ref b), (1, .int p0)]) [0, 1] rfl ?_
  refine aw_aload_n (q := 1) gdJ4_append_cf468_0.1 rfl 0 rfl ?_
  refine aw_iload_n (q := 2) gdJ4_append_cf468_0.2.1 rfl 1 rfl ?_
  refine aw_call (q := 5) (kc1 := 0) (ks1 := 0) (wc := [(b, .inr (1, [.ref v, .int (0 : Int32), .int (0 : Int32), .int cnt])), (v, .inl (5, n, .inl f))]) (wr := []) (st1 := fun x2 g2 => [.ref b]) (ws1 := fun x2 g2 => [(b, .inr (1, [.ref (g2 0), .int (0 : Int32), .int (0 : Int32), .int x2.1])), ((g2 0), .inl (5, x2.2.1, .inl x2.2.2))]) (As := [.ref b, .int p0]) [0, 1] [] (fun _ => runSU (q0 := 0) gdJ4_append_cf468_0.2.2.1 mi_J5_append_3fe6f (by decide) im_J5_append_3fe6f sm_J5_append_3fe6f sp_J4_J5 ml_J4_50 (by omega) rfl (Nat.le_of_ble_eq_true rfl) rfl rfl rfl) (fun x9 h9 => ok_J_appendC5 h9) rfl rfl rfl rfl rfl (by decide +kernel) (by omega) (by omega) (fun _ _ => rfl) (fun _ _ => rfl) (fun x2 g2 => ?_)
  refine aw_pop (q := 6) gdJ4_append_cf468_0.2.2.2.1 rfl rfl ?_
  refine aw_aload_n (q := 7) gdJ4_append_cf468_0.2.2.2.2.1 rfl 0 rfl ?_
  exact aw_areturn (w := [(b, .inr (1, [.ref (g2 0), .int (0 : Int32), .int (0 : Int32), .int x2.1])), ((g2 0), .inl (5, x2.2.1, .inl x2.2.2))]) [0, 1] gdJ4_append_cf468_0.2.2.2.2.2 rfl (Or.inl ⟨_, rfl⟩) rfl rfl (PN.mk (fun j => if j = 0 then (g2 0) else 0) rfl rfl)
def fJ_appendI (N K : Nat) (cnt : Int32) (n : Nat) (f : Nat → Int32) (p0 : Int32) : Option (Int32 × Nat × (Nat → Int32)) :=
  ((fJ_appendI5 N K cnt n f p0).bind (fun x2 => (some (x2.1, x2.2.1, x2.2.2))))
set_option maxHeartbeats 4000000 in
set_option maxRecDepth 100000 in
theorem ok_J_appendI {N K : Nat} {b v : Nat} {cnt : Int32} {n : Nat} {f : Nat → Int32} {p0 : Int32} {xr : Int32 × Nat × (Nat → Int32)} (hE : fJ_appendI N K cnt n f p0 = some xr) : OkM yJ4_append_bf812 (.code yJ4_append_bf812 cJ4_append_bf812 2 (some (.object "java/lang/StringBuilder"))) (5) 1 80 [.ref b, .int p0] [(b, .inr (1, [.ref v, .int (0 : Int32), .int (0 : Int32), .int cnt])), (v, .inl (5, n, .inl f))] ((PN (U := Int32 × Nat × (Nat → Int32)) (fun _ _ => some (.ref b)) (fun zz ad => [(b, .inr (1, [.ref (ad 0), .int (0 : Int32), .int (0 : Int32), .int zz.1])), ((ad 0), .inl (5, zz.2.1, .inl zz.2.2))])) xr) := by
  refine ok_of (by decide) (Nat.le_of_ble_eq_true rfl) hE ?_
  refine aw_locals (lv' := [(0, .ref b), (1, .int p0)]) [0, 1] rfl ?_
  refine aw_aload_n (q := 1) gdJ4_append_bf812_0.1 rfl 0 rfl ?_
  refine aw_iload_n (q := 2) gdJ4_append_bf812_0.2.1 rfl 1 rfl ?_
  refine aw_call (q := 5) (kc1 := 0) (ks1 := 0) (wc := [(b, .inr (1, [.ref v, .int (0 : Int32), .int (0 : Int32), .int cnt])), (v, .inl (5, n, .inl f))]) (wr := []) (st1 := fun x2 g2 => [.ref b]) (ws1 := fun x2 g2 => [(b, .inr (1, [.ref (g2 0), .int (0 : Int32), .int (0 : Int32), .int x2.1])), ((g2 0), .inl (5, x2.2.1, .inl x2.2.2))]) (As := [.ref b, .int p0]) [0, 1] [] (fun _ => runSU (q0 := 0) gdJ4_append_bf812_0.2.2.1 mi_J5_append_c97b9 (by decide) im_J5_append_c97b9 sm_J5_append_c97b9 sp_J4_J5 ml_J4_53 (by omega) rfl (Nat.le_of_ble_eq_true rfl) rfl rfl rfl) (fun x9 h9 => ok_J_appendI5 h9) rfl rfl rfl rfl rfl (by decide +kernel) (by omega) (by omega) (fun _ _ => rfl) (fun _ _ => rfl) (fun x2 g2 => ?_)
  refine aw_pop (q := 6) gdJ4_append_bf812_0.2.2.2.1 rfl rfl ?_
  refine aw_aload_n (q := 7) gdJ4_append_bf812_0.2.2.2.2.1 rfl 0 rfl ?_
  exact aw_areturn (w := [(b, .inr (1, [.ref (g2 0), .int (0 : Int32), .int (0 : Int32), .int x2.1])), ((g2 0), .inl (5, x2.2.1, .inl x2.2.2))]) [0, 1] gdJ4_append_bf812_0.2.2.2.2.2 rfl (Or.inl ⟨_, rfl⟩) rfl rfl (PN.mk (fun j => if j = 0 then (g2 0) else 0) rfl rfl)
def fJ_init5 (N K : Nat) (p0 : Int32) : Option (Nat × (Nat → Int32)) :=
  (if p0 < 0 ∨ 80 < p0.toNatClampNeg then none else (some (p0.toNatClampNeg, (fun _ => 0))))
set_option maxHeartbeats 4000000 in
set_option maxRecDepth 100000 in
theorem ok_J_init5 {N K : Nat} {b : Nat} {p0 : Int32} {xr : Nat × (Nat → Int32)} (hE : fJ_init5 N K p0 = some xr) : OkM yJ5_init_d00df (.code yJ5_init_d00df cJ5_init_d00df 2 none) (1) 1 80 [.ref b, .int p0] [(b, .inr (1, [.null, .int (0 : Int32), .int (0 : Int32), .int (0 : Int32)]))] ((PN (U := Nat × (Nat → Int32)) (fun _ _ => none) (fun zz ad => [(b, .inr (1, [.ref (ad 0), .int (0 : Int32), .int (0 : Int32), .int (0 : Int32)])), ((ad 0), .inl (5, zz.1, .inl zz.2))])) xr) := by
  refine ok_of (by decide) (Nat.le_of_ble_eq_true rfl) hE ?_
  refine aw_locals (lv' := [(0, .ref b), (1, .int p0)]) [0, 1] rfl ?_
  refine aw_aload_n (q := 1) gdJ5_init_d00df_0.1 rfl 0 rfl ?_
  refine aw_objInit (q := 4) gdJ5_init_d00df_0.2.1 rfl ml_J5_3 w_oi (by omega) (Nat.le_of_ble_eq_true rfl) ?_
  refine aw_getsC (q := 7) gdJ5_init_d00df_0.2.2.1 rfl gs_J5_18 ?_
  refine aw_if_eqF (q := 10) (off := 18) (tgt := 25) gdJ5_init_d00df_0.2.2.2.1 (by decide) rfl (by decide) ?_
  refine aw_aload_n (q := 11) gdJ5_init_d00df_0.2.2.2.2.1 rfl 0 rfl ?_
  refine aw_iload_n (q := 12) gdJ5_init_d00df_0.2.2.2.2.2.1 rfl 1 rfl ?_
  refine aw_newB (q := 14) (B := 80) (kc' := 0) (ks' := 0) (ws' := fun r12 => [(b, .inr (1, [.null, .int (0 : Int32), .int (0 : Int32), .int (0 : Int32)])), (r12, .inl (5, p0.toNatClampNeg, .inl (fun _ => 0)))]) gdJ5_init_d00df_0.2.2.2.2.2.2.1 rfl ac_byte (by decide) (by omega) (by omega) (fun _ => rfl) (fun r12 => ?_)
  refine aw_put (q := 17) (ws' := [(b, .inr (1, [.ref r12, .int (0 : Int32), .int (0 : Int32), .int (0 : Int32)])), (r12, .inl (5, p0.toNatClampNeg, .inl (fun _ => 0)))]) gdJ5_init_d00df_0.2.2.2.2.2.2.2 rfl fl_J5_15 0 rfl rfl rfl (Nat.le_of_ble_eq_true rfl) rfl ?_
  refine aw_aload_n (q := 18) gdJ5_init_d00df_17.1 rfl 0 rfl ?_
  refine aw_iconst (q := 19) (v := 0) gdJ5_init_d00df_17.2.1 rfl (by decide) ?_
  refine aw_put (q := 22) (ws' := [(b, .inr (1, [.ref r12, .int (0 : Int32), .int (0 : Int32), .int (0 : Int32)])), (r12, .inl (5, p0.toNatClampNeg, .inl (fun _ => 0)))]) gdJ5_init_d00df_17.2.2.1 rfl fl_J5_22 0 rfl rfl rfl (Nat.le_of_ble_eq_true rfl) rfl ?_
  refine aw_goto (tgt := 38) gdJ5_init_d00df_17.2.2.2.1 (by decide) ?_
  exact aw_return (w := [(b, .inr (1, [.ref r12, .int (0 : Int32), .int (0 : Int32), .int (0 : Int32)])), (r12, .inl (5, p0.toNatClampNeg, .inl (fun _ => 0)))]) [0, 1] gdJ5_init_d00df_17.2.2.2.2 rfl rfl rfl (PN.mk (fun j => if j = 0 then r12 else 0) rfl rfl)
def fJ_init4 (N K : Nat)  : Option (Nat × (Nat → Int32)) :=
  ((fJ_init5 N K (16 : Int32)).bind (fun x3 => (some (x3.1, x3.2))))
set_option maxHeartbeats 4000000 in
set_option maxRecDepth 100000 in
theorem ok_J_init4 {N K : Nat} {b : Nat} {xr : Nat × (Nat → Int32)} (hE : fJ_init4 N K  = some xr) : OkM yJ4_init_da8c8 (.code yJ4_init_da8c8 cJ4_init_da8c8 1 none) (2) 1 80 [.ref b] [(b, .inr (1, [.null, .int (0 : Int32), .int (0 : Int32), .int (0 : Int32)]))] ((PN (U := Nat × (Nat → Int32)) (fun _ _ => none) (fun zz ad => [(b, .inr (1, [.ref (ad 0), .int (0 : Int32), .int (0 : Int32), .int (0 : Int32)])), ((ad 0), .inl (5, zz.1, .inl zz.2))])) xr) := by
  refine ok_of (by decide) (Nat.le_of_ble_eq_true rfl) hE ?_
  refine aw_locals (lv' := [(0, .ref b)]) [0] rfl ?_
  refine aw_aload_n (q := 1) gdJ4_init_da8c8_0.1 rfl 0 rfl ?_
  refine aw_bipush (q := 3) (v := 16) gdJ4_init_da8c8_0.2.1 rfl (by decide) ?_
  refine aw_call (q := 6) (kc1 := 0) (ks1 := 0) (wc := [(b, .inr (1, [.null, .int (0 : Int32), .int (0 : Int32), .int (0 : Int32)]))]) (wr := []) (st1 := fun x3 g3 => []) (ws1 := fun x3 g3 => [(b, .inr (1, [.ref (g3 0), .int (0 : Int32), .int (0 : Int32), .int (0 : Int32)])), ((g3 0), .inl (5, x3.1, .inl x3.2))]) (As := [.ref b, .int (16 : Int32)]) [0] [] (fun _ => runI gdJ4_init_da8c8_0.2.2.1 mi_J5_init_d00df rfl im_J5_init_d00df ml_J4_1 (by omega) rfl (Nat.le_of_ble_eq_true rfl) rfl) (fun x9 h9 => ok_J_init5 h9) rfl rfl rfl rfl rfl (by decide +kernel) (by omega) (by omega) (fun _ _ => rfl) (fun _ _ => rfl) (fun x3 g3 => ?_)
  exact aw_return (w := [(b, .inr (1, [.ref (g3 0), .int (0 : Int32), .int (0 : Int32), .int (0 : Int32)])), ((g3 0), .inl (5, x3.1, .inl x3.2))]) [0, 1] gdJ4_init_da8c8_0.2.2.2 rfl rfl rfl (PN.mk (fun j => if j = 0 then (g3 0) else 0) rfl rfl)
def fJ_str2 (N K : Nat) (cnt : Int32) (n : Nat) (f : Nat → Int32) : Option (Nat × (Nat → Int32)) :=
  ((fJ_getValue N K cnt n f).bind (fun x5 => ((fJ_length N K cnt n f).bind (fun x10 => ((fJ_isLatin1 N K cnt n f).bind (fun x16 => (if x16 = 0 then none else ((fJ_copyOfRange N K n f (0 : Int32) x10).bind (fun x32 => (some (x32.1, x32.2)))))))))))
set_option maxHeartbeats 4000000 in
set_option maxRecDepth 100000 in
theorem ok_J_str2 {N K : Nat} {k b v : Nat} {cnt : Int32} {n : Nat} {f : Nat → Int32} {xr : Nat × (Nat → Int32)} (hE : fJ_str2 N K cnt n f = some xr) : OkM yJ0_init_db425 (.code yJ0_init_db425 cJ0_init_db425 5 none) (4) 1 80 [.ref k, .ref b, .null] [(k, .inr (0, [.null, .int (0 : Int32), .int (0 : Int32), .int (0 : Int32)])), (b, .inr (1, [.ref v, .int (0 : Int32), .int (0 : Int32), .int cnt])), (v, .inl (5, n, .inl f))] ((PN (U := Nat × (Nat → Int32)) (fun _ _ => none) (fun zz ad => [(k, .inr (0, [.ref (ad 0), .int (0 : Int32), .int (0 : Int32), .int (0 : Int32)])), (b, .inr (1, [.ref v, .int (0 : Int32), .int (0 : Int32), .int cnt])), (v, .inl (5, n, .inl f)), ((ad 0), .inl (5, zz.1, .inl zz.2))])) xr) := by
  refine ok_of (by decide) (Nat.le_of_ble_eq_true rfl) hE ?_
  refine aw_locals (lv' := [(0, .ref k), (1, .ref b), (2, .null)]) [0, 1, 2] rfl ?_
  refine aw_aload_n (q := 1) gdJ0_init_db425_0.1 rfl 0 rfl ?_
  refine aw_objInit (q := 4) gdJ0_init_db425_0.2.1 rfl ml_J0_1 w_oi (by omega) (Nat.le_of_ble_eq_true rfl) ?_
  refine aw_aload_n (q := 5) gdJ0_init_db425_0.2.2.1 rfl 1 rfl ?_
  refine aw_call (q := 8) (kc1 := 1) (ks1 := 80) (wc := [(b, .inr (1, [.ref v, .int (0 : Int32), .int (0 : Int32), .int cnt])), (v, .inl (5, n, .inl f))]) (wr := [(k, .inr (0, [.null, .int (0 : Int32), .int (0 : Int32), .int (0 : Int32)]))]) (st1 := fun x5 g5 => [.ref v]) (ws1 := fun x5 g5 => [(k, .inr (0, [.null, .int (0 : Int32), .int (0 : Int32), .int (0 : Int32)])), (b, .inr (1, [.ref v, .int (0 : Int32), .int (0 : Int32), .int cnt])), (v, .inl (5, n, .inl f))]) (As := [.ref b]) [1, 2] [0] (fun _ => runU (q0 := 1) gdJ0_init_db425_0.2.2.2.1 mi_J5_getValue_6d5f1 im_J5_getValue_6d5f1 (fun _ _ h9 _ => h9 _ su_J5_getValue_6d5f1) sm_J5_getValue_6d5f1 im_J5_getValue_6d5f1 cd_J5_getValue_6d5f1 ml_J0_552 (by decide +kernel) (by omega) rfl (Nat.le_of_ble_eq_true rfl) rfl rfl rfl rfl) (fun x9 h9 => ok_J_getValue h9) rfl rfl rfl rfl rfl (by decide +kernel) (by omega) (by omega) (fun _ _ => rfl) (fun _ _ => rfl) (fun x5 g5 => ?_)
  refine aw_astore_n (q := 9) (lv' := [(3, .ref v), (0, .ref k), (1, .ref b), (2, .null)]) gdJ0_init_db425_0.2.2.2.2.1 rfl (by decide) rfl ?_
  refine aw_aload_n (q := 10) gdJ0_init_db425_0.2.2.2.2.2.1 rfl 2 rfl ?_
  refine aw_call (q := 13) (kc1 := 1) (ks1 := 80) (wc := [(b, .inr (1, [.ref v, .int (0 : Int32), .int (0 : Int32), .int cnt])), (v, .inl (5, n, .inl f))]) (wr := [(k, .inr (0, [.null, .int (0 : Int32), .int (0 : Int32), .int (0 : Int32)]))]) (st1 := fun x10 g10 => [.int x10]) (ws1 := fun x10 g10 => [(k, .inr (0, [.null, .int (0 : Int32), .int (0 : Int32), .int (0 : Int32)])), (b, .inr (1, [.ref v, .int (0 : Int32), .int (0 : Int32), .int cnt])), (v, .inl (5, n, .inl f))]) (As := [.ref b]) [1, 2] [0] (fun _ => runU (q0 := 1) gdJ0_init_db425_0.2.2.2.2.2.2.1 mi_J4_length_8abf5 im_J4_length_8abf5 (fun _ _ h9 _ => h9 _ su_J5_length_8abf5) sm_J5_length_8abf5 im_J5_length_8abf5 cd_J5_length_8abf5 ml_J0_549 (by decide +kernel) (by omega) rfl (Nat.le_of_ble_eq_true rfl) rfl rfl rfl rfl) (fun x9 h9 => ok_J_length h9) rfl rfl rfl rfl rfl (by decide +kernel) (by omega) (by omega) (fun _ _ => rfl) (fun _ _ => rfl) (fun x10 g10 => ?_)
  refine aw_istore (q := 15) (lv' := [(4, .int x10), (3, .ref v), (0, .ref k), (1, .ref b), (2, .null)]) gdJ0_init_db425_0.2.2.2.2.2.2.2 rfl (by decide) rfl ?_
  refine aw_aload_n (q := 16) gdJ0_init_db425_15.1 rfl 3 rfl ?_
  refine aw_call (q := 19) (kc1 := 1) (ks1 := 80) (wc := [(b, .inr (1, [.ref v, .int (0 : Int32), .int (0 : Int32), .int cnt])), (v, .inl (5, n, .inl f))]) (wr := [(k, .inr (0, [.null, .int (0 : Int32), .int (0 : Int32), .int (0 : Int32)]))]) (st1 := fun x16 g16 => [.int x16]) (ws1 := fun x16 g16 => [(k, .inr (0, [.null, .int (0 : Int32), .int (0 : Int32), .int (0 : Int32)])), (b, .inr (1, [.ref v, .int (0 : Int32), .int (0 : Int32), .int cnt])), (v, .inl (5, n, .inl f))]) (As := [.ref b]) [1, 2] [0] (fun _ => runU (q0 := 1) gdJ0_init_db425_15.2.1 mi_J5_isLatin1_aae02 im_J5_isLatin1_aae02 (fun _ _ h9 _ => h9 _ su_J5_isLatin1_aae02) sm_J5_isLatin1_aae02 im_J5_isLatin1_aae02 cd_J5_isLatin1_aae02 ml_J0_1047 (by decide +kernel) (by omega) rfl (Nat.le_of_ble_eq_true rfl) rfl rfl rfl rfl) (fun x9 h9 => ok_J_isLatin1 h9) rfl rfl rfl rfl rfl (by decide +kernel) (by omega) (by omega) (fun _ _ => rfl) (fun _ _ => rfl) (fun x16 g16 => ?_)
  refine aw_if_eq (tgt := 41) (q := 22) gdJ0_init_db425_15.2.2.1 (by decide) rfl (fun h_19 => ?_) (fun h_19 => ?_)
  · exact aw_none
  · refine aw_aload_n (q := 23) gdJ0_init_db425_15.2.2.2.1 rfl 2 rfl ?_
    refine aw_iconst (q := 24) (v := 0) gdJ0_init_db425_15.2.2.2.2.1 rfl (by decide) ?_
    refine aw_putF (q := 27) (ws' := [(k, .inr (0, [.null, .int (0 : Int32), .int (0 : Int32), .int (0 : Int32)])), (b, .inr (1, [.ref v, .int (0 : Int32), .int (0 : Int32), .int cnt])), (v, .inl (5, n, .inl f))]) gdJ0_init_db425_15.2.2.2.2.2.1 rfl fl_J0_15 (fun _ _ _ h9 => by cases h9; rfl) rfl 0 rfl rfl rfl (Nat.le_of_ble_eq_true rfl) rfl ?_
    refine aw_aload_n (q := 28) gdJ0_init_db425_15.2.2.2.2.2.2.1 rfl 2 rfl ?_
    refine aw_aload_n (q := 29) gdJ0_init_db425_15.2.2.2.2.2.2.2 rfl 1 rfl ?_
    refine aw_iconst (q := 30) (v := 0) gdJ0_init_db425_29.1 rfl (by decide) ?_
    refine aw_iload (q := 32) gdJ0_init_db425_29.2.1 rfl 0 rfl ?_
    refine aw_call (q := 35) (kc1 := 0) (ks1 := 0) (wc := [(v, .inl (5, n, .inl f))]) (wr := [(k, .inr (0, [.null, .int (0 : Int32), .int (0 : Int32), .int (0 : Int32)])), (b, .inr (1, [.ref v, .int (0 : Int32), .int (0 : Int32), .int cnt]))]) (st1 := fun x32 g32 => [.ref (g32 0), .ref k]) (ws1 := fun x32 g32 => [(k, .inr (0, [.null, .int (0 : Int32), .int (0 : Int32), .int (0 : Int32)])), (b, .inr (1, [.ref v, .int (0 : Int32), .int (0 : Int32), .int cnt])), (v, .inl (5, n, .inl f)), ((g32 0), .inl (5, x32.1, .inl x32.2))]) (As := [.ref v, .int (0 : Int32), .int x10]) [2] [0, 1] (fun _ => runS gdJ0_init_db425_29.2.2.1 mi_J7_copyOfRange_39247 st_J7_copyOfRange_39247 ml_J0_54 (by omega) rfl (Nat.le_of_ble_eq_true rfl) rfl) (fun x9 h9 => ok_J_copyOfRange h9) rfl rfl rfl rfl rfl (by decide +kernel) (by omega) (by omega) (fun _ _ => rfl) (fun _ _ => rfl) (fun x32 g32 => ?_)
    refine aw_putF (q := 38) (ws' := [(k, .inr (0, [.ref (g32 0), .int (0 : Int32), .int (0 : Int32), .int (0 : Int32)])), (b, .inr (1, [.ref v, .int (0 : Int32), .int (0 : Int32), .int cnt])), (v, .inl (5, n, .inl f)), ((g32 0), .inl (5, x32.1, .inl x32.2))]) gdJ0_init_db425_29.2.2.2.1 rfl fl_J0_9 (fun _ _ _ h9 => by cases h9; rfl) rfl 0 rfl rfl rfl (Nat.le_of_ble_eq_true rfl) rfl ?_
    refine aw_goto (tgt := 97) gdJ0_init_db425_29.2.2.2.2.1 (by decide) ?_
    exact aw_return (w := [(k, .inr (0, [.ref (g32 0), .int (0 : Int32), .int (0 : Int32), .int (0 : Int32)])), (b, .inr (1, [.ref v, .int (0 : Int32), .int (0 : Int32), .int cnt])), (v, .inl (5, n, .inl f)), ((g32 0), .inl (5, x32.1, .inl x32.2))]) [0, 1, 2, 3] gdJ0_init_db425_29.2.2.2.2.2 rfl rfl rfl (PN.mk (fun j => if j = 0 then (g32 0) else 0) rfl rfl)
def fJ_str1 (N K : Nat) (cnt : Int32) (n : Nat) (f : Nat → Int32) : Option (Nat × (Nat → Int32)) :=
  ((fJ_str2 N K cnt n f).bind (fun x3 => (some (x3.1, x3.2))))
set_option maxHeartbeats 4000000 in
set_option maxRecDepth 100000 in
theorem ok_J_str1 {N K : Nat} {k b v : Nat} {cnt : Int32} {n : Nat} {f : Nat → Int32} {xr : Nat × (Nat → Int32)} (hE : fJ_str1 N K cnt n f = some xr) : OkM yJ0_init_81219 (.code yJ0_init_81219 cJ0_init_81219 2 none) (5) 1 80 [.ref k, .ref b] [(k, .inr (0, [.null, .int (0 : Int32), .int (0 : Int32), .int (0 : Int32)])), (b, .inr (1, [.ref v, .int (0 : Int32), .int (0 : Int32), .int cnt])), (v, .inl (5, n, .inl f))] ((PN (U := Nat × (Nat → Int32)) (fun _ _ => none) (fun zz ad => [(k, .inr (0, [.ref (ad 0), .int (0 : Int32), .int (0 : Int32), .int (0 : Int32)])), (b, .inr (1, [.ref v, .int (0 : Int32), .int (0 : Int32), .int cnt])), (v, .inl (5, n, .inl f)), ((ad 0), .inl (5, zz.1, .inl zz.2))])) xr) := by
  refine ok_of (by decide) (Nat.le_of_ble_eq_true rfl) hE ?_
  refine aw_locals (lv' := [(0, .ref k), (1, .ref b)]) [0, 1] rfl ?_
  refine aw_aload_n (q := 1) gdJ0_init_81219_0.1 rfl 0 rfl ?_
  refine aw_aload_n (q := 2) gdJ0_init_81219_0.2.1 rfl 1 rfl ?_
  refine aw_null (q := 3) gdJ0_init_81219_0.2.2.1 rfl ?_
  refine aw_call (q := 6) (kc1 := 0) (ks1 := 0) (wc := [(k, .inr (0, [.null, .int (0 : Int32), .int (0 : Int32), .int (0 : Int32)])), (b, .inr (1, [.ref v, .int (0 : Int32), .int (0 : Int32), .int cnt])), (v, .inl (5, n, .inl f))]) (wr := []) (st1 := fun x3 g3 => []) (ws1 := fun x3 g3 => [(k, .inr (0, [.ref (g3 0), .int (0 : Int32), .int (0 : Int32), .int (0 : Int32)])), (b, .inr (1, [.ref v, .int (0 : Int32), .int (0 : Int32), .int cnt])), (v, .inl (5, n, .inl f)), ((g3 0), .inl (5, x3.1, .inl x3.2))]) (As := [.ref k, .ref b, .null]) [0, 1, 2] [] (fun _ => runI gdJ0_init_81219_0.2.2.2.1 mi_J0_init_db425 rfl im_J0_init_db425 ml_J0_489 (by omega) rfl (Nat.le_of_ble_eq_true rfl) rfl) (fun x9 h9 => ok_J_str2 h9) rfl rfl rfl rfl rfl (by decide +kernel) (by omega) (by omega) (fun _ _ => rfl) (fun _ _ => rfl) (fun x3 g3 => ?_)
  exact aw_return (w := [(k, .inr (0, [.ref (g3 0), .int (0 : Int32), .int (0 : Int32), .int (0 : Int32)])), (b, .inr (1, [.ref v, .int (0 : Int32), .int (0 : Int32), .int cnt])), (v, .inl (5, n, .inl f)), ((g3 0), .inl (5, x3.1, .inl x3.2))]) [0, 1, 2, 3] gdJ0_init_81219_0.2.2.2.2 rfl rfl rfl (PN.mk (fun j => if j = 0 then (g3 0) else 0) rfl rfl)
def fJ_toString (N K : Nat) (cnt : Int32) (n : Nat) (f : Nat → Int32) : Option (Unit) :=
  ((fJ_str1 N K cnt n f).bind (fun x5 => (some ())))
set_option maxHeartbeats 4000000 in
set_option maxRecDepth 100000 in
theorem ok_J_toString {N K : Nat} {b v : Nat} {cnt : Int32} {n : Nat} {f : Nat → Int32} {xr : Unit} (hE : fJ_toString N K cnt n f = some xr) : OkM yJ4_toString_0e30d (.code yJ4_toString_0e30d cJ4_toString_0e30d 1 (some (.object "java/lang/String"))) (6) 2 84 [.ref b] [(b, .inr (1, [.ref v, .int (0 : Int32), .int (0 : Int32), .int cnt])), (v, .inl (5, n, .inl f))] ((PN (U := Unit) (fun _ ad => some (.ref (ad 0))) (fun zz ad => [(b, .inr (1, [.ref v, .int (0 : Int32), .int (0 : Int32), .int cnt])), (v, .inl (5, n, .inl f))])) xr) := by
  refine ok_of (by decide) (Nat.le_of_ble_eq_true rfl) hE ?_
  refine aw_locals (lv' := [(0, .ref b)]) [0] rfl ?_
  refine aw_new (q := 3) (kc' := 1) (ks' := 80) (ws' := fun r0 => [(b, .inr (1, [.ref v, .int (0 : Int32), .int (0 : Int32), .int cnt])), (v, .inl (5, n, .inl f)), (r0, .inr (0, [.null, .int (0 : Int32), .int (0 : Int32), .int (0 : Int32)]))]) gdJ4_toString_0e30d_0.1 rfl nw_J4_18 (by omega) (by omega) (fun _ => rfl) (fun r0 => ?_)
  refine aw_dup (q := 4) gdJ4_toString_0e30d_0.2.1 rfl rfl ?_
  refine aw_aload_n (q := 5) gdJ4_toString_0e30d_0.2.2.1 rfl 0 rfl ?_
  refine aw_call (q := 8) (kc1 := 0) (ks1 := 0) (wc := [(r0, .inr (0, [.null, .int (0 : Int32), .int (0 : Int32), .int (0 : Int32)])), (b, .inr (1, [.ref v, .int (0 : Int32), .int (0 : Int32), .int cnt])), (v, .inl (5, n, .inl f))]) (wr := []) (st1 := fun x5 g5 => [.ref r0]) (ws1 := fun x5 g5 => [(r0, .inr (0, [.ref (g5 0), .int (0 : Int32), .int (0 : Int32), .int (0 : Int32)])), (b, .inr (1, [.ref v, .int (0 : Int32), .int (0 : Int32), .int cnt])), (v, .inl (5, n, .inl f)), ((g5 0), .inl (5, x5.1, .inl x5.2))]) (As := [.ref r0, .ref b]) [2, 0, 1] [] (fun _ => runI gdJ4_toString_0e30d_0.2.2.2.1 mi_J0_init_81219 rfl im_J0_init_81219 ml_J4_137 (by omega) rfl (Nat.le_of_ble_eq_true rfl) rfl) (fun x9 h9 => ok_J_str1 h9) rfl rfl rfl rfl rfl (by decide +kernel) (by omega) (by omega) (fun _ _ => rfl) (fun _ _ => rfl) (fun x5 g5 => ?_)
  exact aw_areturn (w := [(b, .inr (1, [.ref v, .int (0 : Int32), .int (0 : Int32), .int cnt])), (v, .inl (5, n, .inl f))]) [1, 2] gdJ4_toString_0e30d_0.2.2.2.2 rfl (Or.inl ⟨_, rfl⟩) rfl rfl (PN.mk (fun j => if j = 0 then r0 else 0) rfl rfl)

end MG_34jdk
section MG_35text
def fX4_text_23 (N K : Nat) (f : Nat → Int32) (k_11 : Int32 → Int32 → Nat → (Nat → Int32) → Nat → Option (Unit)) : Nat → Int32 → Int32 → Int32 → Nat → (Nat → Int32) → Nat → Option (Unit)
  | 0, _, _, _, _, _, _ => none
  | fu + 1, l2, l3, o_v0_3, n_v1, e_v1, bd =>
    (if bd = 0 then none else (if l3 ≤ 0 then k_11 (l2 + (-1 : Int32)) o_v0_3 n_v1 e_v1 (bd - 1) else ((fJ_length N K o_v0_3 n_v1 e_v1).bind (fun x28 => (if x28 ≤ 0 then ((fJ_appendI N K o_v0_3 n_v1 e_v1 l2).bind (fun x43 => fX4_text_23 N K f k_11 fu l2 (l3 + (-1 : Int32)) x43.1 x43.2.1 x43.2.2 (bd - 1))) else ((fJ_appendC N K o_v0_3 n_v1 e_v1 (43 : Int32)).bind (fun x37 => ((fJ_appendI N K x37.1 x37.2.1 x37.2.2 l2).bind (fun x43_1 => fX4_text_23 N K f k_11 fu l2 (l3 + (-1 : Int32)) x43_1.1 x43_1.2.1 x43_1.2.2 (bd - 1))))))))))
set_option maxHeartbeats 4000000 in
set_option maxRecDepth 100000 in
theorem tX4_text_23 {N K : Nat} {w a : Nat} {f : Nat → Int32} {k_11 : Int32 → Int32 → Nat → (Nat → Int32) → Nat → Option (Unit)} (hk_11 : ∀ (l2 : Int32) (o_v0_3 : Int32) (n_v1 : Nat) (e_v1 : Nat → Int32) (bd : Nat) (v0 v1 : Nat), AW RX4 "text" cX4_text 4 (some (.object "java/lang/String")) [] (fun _ _ => True) (7) (PN (U := Unit) (fun _ ad => some (.ref (ad 0))) (fun zz ad => [(w, .inr (6, [.ref a])), (a, .inl (0, 21, .inl f))])) (2 * bd + 2) (160 * bd + 84) (k_11 l2 o_v0_3 n_v1 e_v1 bd) 11 [(0, .ref w), (1, .ref v0), (2, .int l2)] [] [(w, .inr (6, [.ref a])), (a, .inl (0, 21, .inl f)), (v0, .inr (1, [.ref v1, .int (0 : Int32), .int (0 : Int32), .int o_v0_3])), (v1, .inl (5, n_v1, .inl e_v1))]) : ∀ (fu : Nat) (l2 : Int32) (l3 : Int32) (o_v0_3 : Int32) (n_v1 : Nat) (e_v1 : Nat → Int32) (bd : Nat) (v0 v1 : Nat), AW RX4 "text" cX4_text 4 (some (.object "java/lang/String")) [] (fun _ _ => True) (7) (PN (U := Unit) (fun _ ad => some (.ref (ad 0))) (fun zz ad => [(w, .inr (6, [.ref a])), (a, .inl (0, 21, .inl f))])) (2 * bd + 2) (160 * bd + 84) (fX4_text_23 N K f k_11 fu l2 l3 o_v0_3 n_v1 e_v1 bd) 23 [(0, .ref w), (1, .ref v0), (2, .int l2), (3, .int l3)] [] [(w, .inr (6, [.ref a])), (a, .inl (0, 21, .inl f)), (v0, .inr (1, [.ref v1, .int (0 : Int32), .int (0 : Int32), .int o_v0_3])), (v1, .inl (5, n_v1, .inl e_v1))] := by
  intro fu
  induction fu with
  | zero => intro l2 l3 o_v0_3 n_v1 e_v1 bd v0 v1; exact aw_none
  | succ fu ih =>
    intro l2 l3 o_v0_3 n_v1 e_v1 bd v0 v1
    refine aw_pos (fun hbd => ?_)
    refine aw_room (kc' := (2 * (bd - 1) + 4)) (ks' := (160 * (bd - 1) + 244)) (by omega) (by omega) ?_
    refine aw_iload_n (q := 24) gdX4_text_13.2.2.2.2.2.2.1 rfl 3 rfl ?_
    refine aw_if_le (tgt := 53) (q := 27) gdX4_text_13.2.2.2.2.2.2.2 (by decide) rfl (fun h_24 => ?_) (fun h_24 => ?_)
    · refine aw_iinc (q := 56) (v := (l2 + (-1 : Int32))) (lv' := [(2, .int (l2 + (-1 : Int32))), (0, .ref w), (1, .ref v0), (3, .int l3)]) gdX4_text_42.2.2.2.2.2.1 rfl 2 rfl rfl (by decide) rfl ?_
      refine aw_goto (tgt := 11) gdX4_text_42.2.2.2.2.2.2.1 (by decide) ?_
      refine aw_locals (lv' := [(0, .ref w), (1, .ref v0), (2, .int (l2 + (-1 : Int32)))]) [1, 2, 0] rfl ?_
      refine aw_room (kc' := (2 * (bd - 1) + 2)) (ks' := (160 * (bd - 1) + 84)) (by omega) (by omega) ?_
      exact hk_11 _ _ _ _ _ _ _
    · refine aw_aload_n (q := 28) gdX4_text_27.1 rfl 1 rfl ?_
      refine aw_call (q := 31) (kc1 := (2 * (bd - 1) + 4)) (ks1 := (160 * (bd - 1) + 244)) (wc := [(v0, .inr (1, [.ref v1, .int (0 : Int32), .int (0 : Int32), .int o_v0_3])), (v1, .inl (5, n_v1, .inl e_v1))]) (wr := [(w, .inr (6, [.ref a])), (a, .inl (0, 21, .inl f))]) (st1 := fun x28 g28 => [.int x28]) (ws1 := fun x28 g28 => [(w, .inr (6, [.ref a])), (a, .inl (0, 21, .inl f)), (v0, .inr (1, [.ref v1, .int (0 : Int32), .int (0 : Int32), .int o_v0_3])), (v1, .inl (5, n_v1, .inl e_v1))]) (As := [.ref v0]) [2, 3] [0, 1] (fun _ => runV (q0 := 2) gdX4_text_27.2.1 mi_J4_length_8abf5 im_J4_length_8abf5 se_J4_length_8abf5 ml_X4_66 (by omega) rfl (Nat.le_of_ble_eq_true rfl) rfl rfl rfl rfl) (fun x9 h9 => ok_J_length h9) rfl rfl rfl rfl rfl (by decide +kernel) (by omega) (by omega) (fun _ _ => rfl) (fun _ _ => rfl) (fun x28 g28 => ?_)
      refine aw_if_le (tgt := 41) (q := 34) gdX4_text_27.2.2.1 (by decide) rfl (fun h_31 => ?_) (fun h_31 => ?_)
      · refine aw_aload_n (q := 42) gdX4_text_27.2.2.2.2.2.2.2 rfl 1 rfl ?_
        refine aw_iload_n (q := 43) gdX4_text_42.1 rfl 2 rfl ?_
        refine aw_call (q := 46) (kc1 := (2 * (bd - 1) + 3)) (ks1 := (160 * (bd - 1) + 164)) (wc := [(v0, .inr (1, [.ref v1, .int (0 : Int32), .int (0 : Int32), .int o_v0_3])), (v1, .inl (5, n_v1, .inl e_v1))]) (wr := [(w, .inr (6, [.ref a])), (a, .inl (0, 21, .inl f))]) (st1 := fun x43 g43 => [.ref v0]) (ws1 := fun x43 g43 => [(w, .inr (6, [.ref a])), (a, .inl (0, 21, .inl f)), (v0, .inr (1, [.ref (g43 0), .int (0 : Int32), .int (0 : Int32), .int x43.1])), ((g43 0), .inl (5, x43.2.1, .inl x43.2.2))]) (As := [.ref v0, .int l2]) [2, 3] [0, 1] (fun _ => runV (q0 := 2) gdX4_text_42.2.1 mi_J4_append_bf812 im_J4_append_bf812 se_J4_append_bf812 ml_X4_73 (by omega) rfl (Nat.le_of_ble_eq_true rfl) rfl rfl rfl rfl) (fun x9 h9 => ok_J_appendI h9) rfl rfl rfl rfl rfl (by decide +kernel) (by omega) (by omega) (fun _ _ => rfl) (fun _ _ => rfl) (fun x43 g43 => ?_)
        refine aw_pop (q := 47) gdX4_text_42.2.2.1 rfl rfl ?_
        refine aw_iinc (q := 50) (v := (l3 + (-1 : Int32))) (lv' := [(3, .int (l3 + (-1 : Int32))), (0, .ref w), (1, .ref v0), (2, .int l2)]) gdX4_text_42.2.2.2.1 rfl 3 rfl rfl (by decide) rfl ?_
        refine aw_goto (tgt := 23) gdX4_text_42.2.2.2.2.1 (by decide) ?_
        refine aw_locals (lv' := [(0, .ref w), (1, .ref v0), (2, .int l2), (3, .int (l3 + (-1 : Int32)))]) [1, 2, 3, 0] rfl ?_
        refine aw_room (kc' := (2 * (bd - 1) + 2)) (ks' := (160 * (bd - 1) + 84)) (by omega) (by omega) ?_
        exact ih _ _ _ _ _ _ _ _
      · refine aw_aload_n (q := 35) gdX4_text_27.2.2.2.1 rfl 1 rfl ?_
        refine aw_bipush (q := 37) (v := 43) gdX4_text_27.2.2.2.2.1 rfl (by decide) ?_
        refine aw_call (q := 40) (kc1 := (2 * (bd - 1) + 3)) (ks1 := (160 * (bd - 1) + 164)) (wc := [(v0, .inr (1, [.ref v1, .int (0 : Int32), .int (0 : Int32), .int o_v0_3])), (v1, .inl (5, n_v1, .inl e_v1))]) (wr := [(w, .inr (6, [.ref a])), (a, .inl (0, 21, .inl f))]) (st1 := fun x37 g37 => [.ref v0]) (ws1 := fun x37 g37 => [(w, .inr (6, [.ref a])), (a, .inl (0, 21, .inl f)), (v0, .inr (1, [.ref (g37 0), .int (0 : Int32), .int (0 : Int32), .int x37.1])), ((g37 0), .inl (5, x37.2.1, .inl x37.2.2))]) (As := [.ref v0, .int (43 : Int32)]) [2, 3] [0, 1] (fun _ => runV (q0 := 2) gdX4_text_27.2.2.2.2.2.1 mi_J4_append_cf468 im_J4_append_cf468 se_J4_append_cf468 ml_X4_69 (by omega) rfl (Nat.le_of_ble_eq_true rfl) rfl rfl rfl rfl) (fun x9 h9 => ok_J_appendC h9) rfl rfl rfl rfl rfl (by decide +kernel) (by omega) (by omega) (fun _ _ => rfl) (fun _ _ => rfl) (fun x37 g37 => ?_)
        refine aw_pop (q := 41) gdX4_text_27.2.2.2.2.2.2.1 rfl rfl ?_
        refine aw_aload_n (q := 42) gdX4_text_27.2.2.2.2.2.2.2 rfl 1 rfl ?_
        refine aw_iload_n (q := 43) gdX4_text_42.1 rfl 2 rfl ?_
        refine aw_call (q := 46) (kc1 := (2 * (bd - 1) + 2)) (ks1 := (160 * (bd - 1) + 84)) (wc := [(v0, .inr (1, [.ref (g37 0), .int (0 : Int32), .int (0 : Int32), .int x37.1])), ((g37 0), .inl (5, x37.2.1, .inl x37.2.2))]) (wr := [(w, .inr (6, [.ref a])), (a, .inl (0, 21, .inl f))]) (st1 := fun x43_1 g43_1 => [.ref v0]) (ws1 := fun x43_1 g43_1 => [(w, .inr (6, [.ref a])), (a, .inl (0, 21, .inl f)), (v0, .inr (1, [.ref (g43_1 0), .int (0 : Int32), .int (0 : Int32), .int x43_1.1])), ((g43_1 0), .inl (5, x43_1.2.1, .inl x43_1.2.2))]) (As := [.ref v0, .int l2]) [2, 3] [0, 1] (fun _ => runV (q0 := 2) gdX4_text_42.2.1 mi_J4_append_bf812 im_J4_append_bf812 se_J4_append_bf812 ml_X4_73 (by omega) rfl (Nat.le_of_ble_eq_true rfl) rfl rfl rfl rfl) (fun x9 h9 => ok_J_appendI h9) rfl rfl rfl rfl rfl (by decide +kernel) (by omega) (by omega) (fun _ _ => rfl) (fun _ _ => rfl) (fun x43_1 g43_1 => ?_)
        refine aw_pop (q := 47) gdX4_text_42.2.2.1 rfl rfl ?_
        refine aw_iinc (q := 50) (v := (l3 + (-1 : Int32))) (lv' := [(3, .int (l3 + (-1 : Int32))), (0, .ref w), (1, .ref v0), (2, .int l2)]) gdX4_text_42.2.2.2.1 rfl 3 rfl rfl (by decide) rfl ?_
        refine aw_goto (tgt := 23) gdX4_text_42.2.2.2.2.1 (by decide) ?_
        refine aw_locals (lv' := [(0, .ref w), (1, .ref v0), (2, .int l2), (3, .int (l3 + (-1 : Int32)))]) [1, 2, 3, 0] rfl ?_
        refine aw_room (kc' := (2 * (bd - 1) + 2)) (ks' := (160 * (bd - 1) + 84)) (by omega) (by omega) ?_
        exact ih _ _ _ _ _ _ _ _
def fX4_text_11 (N K : Nat) (f : Nat → Int32) : Nat → Int32 → Int32 → Nat → (Nat → Int32) → Nat → Option (Unit)
  | 0, _, _, _, _, _ => none
  | fu + 1, l2, o_v0_3, n_v1, e_v1, bd =>
    (if l2 < (1 : Int32) then ((fJ_toString N K o_v0_3 n_v1 e_v1).bind (fun x60 => (some ()))) else (if l2 < 0 ∨ 21 ≤ l2.toNatClampNeg then none else fX4_text_23 N K f (fX4_text_11 N K f  fu) N l2 (f l2.toNatClampNeg) o_v0_3 n_v1 e_v1 bd))
set_option maxHeartbeats 4000000 in
set_option maxRecDepth 100000 in
theorem tX4_text_11 {N K : Nat} {w a : Nat} {f : Nat → Int32} : ∀ (fu : Nat) (l2 : Int32) (o_v0_3 : Int32) (n_v1 : Nat) (e_v1 : Nat → Int32) (bd : Nat) (v0 v1 : Nat), AW RX4 "text" cX4_text 4 (some (.object "java/lang/String")) [] (fun _ _ => True) (7) (PN (U := Unit) (fun _ ad => some (.ref (ad 0))) (fun zz ad => [(w, .inr (6, [.ref a])), (a, .inl (0, 21, .inl f))])) (2 * bd + 2) (160 * bd + 84) (fX4_text_11 N K f  fu l2 o_v0_3 n_v1 e_v1 bd) 11 [(0, .ref w), (1, .ref v0), (2, .int l2)] [] [(w, .inr (6, [.ref a])), (a, .inl (0, 21, .inl f)), (v0, .inr (1, [.ref v1, .int (0 : Int32), .int (0 : Int32), .int o_v0_3])), (v1, .inl (5, n_v1, .inl e_v1))] := by
  intro fu
  induction fu with
  | zero => intro l2 o_v0_3 n_v1 e_v1 bd v0 v1; exact aw_none
  | succ fu ih =>
    intro l2 o_v0_3 n_v1 e_v1 bd v0 v1
    refine aw_iload_n (q := 12) gdX4_text_0.2.2.2.2.2.2.1 rfl 2 rfl ?_
    refine aw_iconst (q := 13) (v := 1) gdX4_text_0.2.2.2.2.2.2.2 rfl (by decide) ?_
    refine aw_icmp_lt (tgt := 59) (q := 16) gdX4_text_13.1 (by decide) rfl (fun h_13 => ?_) (fun h_13 => ?_)
    · refine aw_aload_n (q := 60) gdX4_text_42.2.2.2.2.2.2.2 rfl 1 rfl ?_
      refine aw_call (q := 63) (kc1 := (2 * bd)) (ks1 := (160 * bd)) (wc := [(v0, .inr (1, [.ref v1, .int (0 : Int32), .int (0 : Int32), .int o_v0_3])), (v1, .inl (5, n_v1, .inl e_v1))]) (wr := [(w, .inr (6, [.ref a])), (a, .inl (0, 21, .inl f))]) (st1 := fun x60 g60 => [.ref (g60 0)]) (ws1 := fun x60 g60 => [(w, .inr (6, [.ref a])), (a, .inl (0, 21, .inl f)), (v0, .inr (1, [.ref v1, .int (0 : Int32), .int (0 : Int32), .int o_v0_3])), (v1, .inl (5, n_v1, .inl e_v1))]) (As := [.ref v0]) [2, 3] [0, 1] (fun _ => runV (q0 := 2) gdX4_text_60.1 mi_J4_toString_0e30d im_J4_toString_0e30d se_J4_toString_0e30d ml_X4_76 (by omega) rfl (Nat.le_of_ble_eq_true rfl) rfl rfl rfl rfl) (fun x9 h9 => ok_J_toString h9) rfl rfl rfl rfl rfl (by decide +kernel) (by omega) (by omega) (fun _ _ => rfl) (fun _ _ => rfl) (fun x60 g60 => ?_)
      exact aw_areturn (w := [(w, .inr (6, [.ref a])), (a, .inl (0, 21, .inl f))]) [0, 1] gdX4_text_60.2 rfl (Or.inl ⟨_, rfl⟩) rfl rfl (PN.mk (fun j => if j = 0 then (g60 0) else 0) rfl rfl)
    · refine aw_aload_n (q := 17) gdX4_text_13.2.1 rfl 0 rfl ?_
      refine aw_get (q := 20) gdX4_text_13.2.2.1 rfl fl_X4_9 0 rfl rfl ?_
      refine aw_iload_n (q := 21) gdX4_text_13.2.2.2.1 rfl 2 rfl ?_
      refine aw_iald (q := 22) gdX4_text_13.2.2.2.2.1 rfl 1 rfl ?_
      refine aw_istore_n (q := 23) (lv' := [(3, .int (f l2.toNatClampNeg)), (0, .ref w), (1, .ref v0), (2, .int l2)]) gdX4_text_13.2.2.2.2.2.1 rfl (by decide) rfl ?_
      refine aw_locals (lv' := [(0, .ref w), (1, .ref v0), (2, .int l2), (3, .int (f l2.toNatClampNeg))]) [1, 2, 3, 0] rfl ?_
      refine aw_room (kc' := (2 * bd + 2)) (ks' := (160 * bd + 84)) (by omega) (by omega) ?_
      exact tX4_text_23 ih N _ _ _ _ _ _ _ _
def fX4_text (N K : Nat) (f : Nat → Int32) : Option (Unit) :=
  ((fJ_init4 N K ).bind (fun x4 => fX4_text_11 N K f  N (20 : Int32) (0 : Int32) x4.1 x4.2 41))
set_option maxHeartbeats 4000000 in
set_option maxRecDepth 100000 in
theorem ok_X4_text {N K : Nat} {w a : Nat} {f : Nat → Int32} {xr : Unit} (hE : fX4_text N K f = some xr) : OkM yX4_text (.code yX4_text cX4_text 4 (some (.object "java/lang/String"))) (7) 110 8000 [.ref w] [(w, .inr (6, [.ref a])), (a, .inl (0, 21, .inl f))] ((PN (U := Unit) (fun _ ad => some (.ref (ad 0))) (fun zz ad => [(w, .inr (6, [.ref a])), (a, .inl (0, 21, .inl f))])) xr) := by
  refine ok_of (by decide) (Nat.le_of_ble_eq_true rfl) hE ?_
  refine aw_locals (lv' := [(0, .ref w)]) [0] rfl ?_
  refine aw_new (q := 3) (kc' := 109) (ks' := 7996) (ws' := fun r0 => [(w, .inr (6, [.ref a])), (a, .inl (0, 21, .inl f)), (r0, .inr (1, [.null, .int (0 : Int32), .int (0 : Int32), .int (0 : Int32)]))]) gdX4_text_0.1 rfl nw_X4_63 (by omega) (by omega) (fun _ => rfl) (fun r0 => ?_)
  refine aw_dup (q := 4) gdX4_text_0.2.1 rfl rfl ?_
  refine aw_call (q := 7) (kc1 := 108) (ks1 := 7916) (wc := [(r0, .inr (1, [.null, .int (0 : Int32), .int (0 : Int32), .int (0 : Int32)]))]) (wr := [(w, .inr (6, [.ref a])), (a, .inl (0, 21, .inl f))]) (st1 := fun x4 g4 => [.ref r0]) (ws1 := fun x4 g4 => [(w, .inr (6, [.ref a])), (a, .inl (0, 21, .inl f)), (r0, .inr (1, [.ref (g4 0), .int (0 : Int32), .int (0 : Int32), .int (0 : Int32)])), ((g4 0), .inl (5, x4.1, .inl x4.2))]) (As := [.ref r0]) [2] [0, 1] (fun _ => runI gdX4_text_0.2.2.1 mi_J4_init_da8c8 rfl im_J4_init_da8c8 ml_X4_65 (by omega) rfl (Nat.le_of_ble_eq_true rfl) rfl) (fun x9 h9 => ok_J_init4 h9) rfl rfl rfl rfl rfl (by decide +kernel) (by omega) (by omega) (fun _ _ => rfl) (fun _ _ => rfl) (fun x4 g4 => ?_)
  refine aw_astore_n (q := 8) (lv' := [(1, .ref r0), (0, .ref w)]) gdX4_text_0.2.2.2.1 rfl (by decide) rfl ?_
  refine aw_bipush (q := 10) (v := 20) gdX4_text_0.2.2.2.2.1 rfl (by decide) ?_
  refine aw_istore_n (q := 11) (lv' := [(2, .int (20 : Int32)), (1, .ref r0), (0, .ref w)]) gdX4_text_0.2.2.2.2.2.1 rfl (by decide) rfl ?_
  refine aw_locals (lv' := [(0, .ref w), (1, .ref r0), (2, .int (20 : Int32))]) [2, 1, 0] rfl ?_
  refine aw_room (kc' := (2 * 41 + 2)) (ks' := (160 * 41 + 84)) (by omega) (by omega) ?_
  exact tX4_text_11  N _ _ _ _ _ _ _
def fX5_wayText (N K : Nat) (f : Nat → Int32) (p0 : Int32) : Option ((Unit) ⊕ String) :=
  (xb (fX5_deskAt N K p0) (fun x2 => ((fX4_text N K f).bind (fun x5 => (some (.inl ()))))))
set_option maxHeartbeats 4000000 in
set_option maxRecDepth 100000 in
theorem ok_X5_wayText {N K : Nat} {x M L Dk c se wk sp w a : Nat} {df : Nat → Option Nat} {f : Nat → Int32} {p0 : Int32} (hd : ¬ (p0 < 0 ∨ 2 ≤ p0.toNatClampNeg) → df p0.toNatClampNeg = some w) {xr : (Unit) ⊕ String} (hE : fX5_wayText N K f p0 = some xr) : OkM yX5_wayText (.code yX5_wayText cX5_wayText 2 (some (.object "java/lang/String"))) (9) 111 8006 [.ref x, .int p0] [(x, .inr (7, [.ref M, .ref L, .ref Dk, .ref c, .ref se, .ref wk, .ref sp])), (Dk, .inl (3, 2, .inr (.inr (.inr (.inr df))))), (w, .inr (6, [.ref a])), (a, .inl (0, 21, .inl f))] ((PX (U := Unit) (fun _ ad => some (.ref (ad 0))) (fun zz ad => [(x, .inr (7, [.ref M, .ref L, .ref Dk, .ref c, .ref se, .ref wk, .ref sp])), (Dk, .inl (3, 2, .inr (.inr (.inr (.inr df))))), (w, .inr (6, [.ref a])), (a, .inl (0, 21, .inl f))]) [(x, .inr (7, [.ref M, .ref L, .ref Dk, .ref c, .ref se, .ref wk, .ref sp])), (Dk, .inl (3, 2, .inr (.inr (.inr (.inr df))))), (w, .inr (6, [.ref a])), (a, .inl (0, 21, .inl f))]) xr) := by
  refine ok_of (by decide) (Nat.le_of_ble_eq_true rfl) hE ?_
  refine aw_locals (lv' := [(0, .ref x), (1, .int p0)]) [0, 1] rfl ?_
  refine aw_aload_n (q := 1) gdX5_wayText_0.1 rfl 0 rfl ?_
  refine aw_iload_n (q := 2) gdX5_wayText_0.2.1 rfl 1 rfl ?_
  refine aw_callX (q := 5) (kc1 := 110) (ks1 := 8000) (wc := [(x, .inr (7, [.ref M, .ref L, .ref Dk, .ref c, .ref se, .ref wk, .ref sp])), (Dk, .inl (3, 2, .inr (.inr (.inr (.inr df)))))]) (wr := [(w, .inr (6, [.ref a])), (a, .inl (0, 21, .inl f))]) (st1 := fun x2 g2 => [.ref w]) (ws1 := fun x2 g2 => [(w, .inr (6, [.ref a])), (a, .inl (0, 21, .inl f)), (x, .inr (7, [.ref M, .ref L, .ref Dk, .ref c, .ref se, .ref wk, .ref sp])), (Dk, .inl (3, 2, .inr (.inr (.inr (.inr df)))))]) (As := [.ref x, .int p0]) [0, 1] [2, 3] [2, 3, 0, 1] (fun _ => runV (q0 := 0) gdX5_wayText_0.2.2.1 mi_X5_deskAt im_X5_deskAt se_X5_deskAt ml_X5_72 (by omega) rfl (Nat.le_of_ble_eq_true rfl) rfl rfl rfl rfl) (fun x9 h9 => ok_X5_deskAt hd h9) rfl rfl rfl rfl rfl rfl (by decide +kernel) rfl rfl (by omega) (by omega) (fun _ _ => rfl) (fun _ _ => rfl) (fun x2 g2 => ?_)
  refine aw_call (q := 8) (kc1 := 0) (ks1 := 0) (wc := [(w, .inr (6, [.ref a])), (a, .inl (0, 21, .inl f))]) (wr := [(x, .inr (7, [.ref M, .ref L, .ref Dk, .ref c, .ref se, .ref wk, .ref sp])), (Dk, .inl (3, 2, .inr (.inr (.inr (.inr df)))))]) (st1 := fun x5 g5 => [.ref (g5 0)]) (ws1 := fun x5 g5 => [(x, .inr (7, [.ref M, .ref L, .ref Dk, .ref c, .ref se, .ref wk, .ref sp])), (Dk, .inl (3, 2, .inr (.inr (.inr (.inr df))))), (w, .inr (6, [.ref a])), (a, .inl (0, 21, .inl f))]) (As := [.ref w]) [0, 1] [2, 3] (fun _ => runV (q0 := 0) gdX5_wayText_0.2.2.2.1 mi_X4_text im_X4_text se_X4_text ml_X5_204 (by omega) rfl (Nat.le_of_ble_eq_true rfl) rfl rfl rfl rfl) (fun x9 h9 => ok_X4_text h9) rfl rfl rfl rfl rfl (by decide +kernel) (by omega) (by omega) (fun _ _ => rfl) (fun _ _ => rfl) (fun x5 g5 => ?_)
  exact aw_areturn (w := [(x, .inr (7, [.ref M, .ref L, .ref Dk, .ref c, .ref se, .ref wk, .ref sp])), (Dk, .inl (3, 2, .inr (.inr (.inr (.inr df))))), (w, .inr (6, [.ref a])), (a, .inl (0, 21, .inl f))]) [0, 1, 2, 3] gdX5_wayText_0.2.2.2.2 rfl (Or.inl ⟨_, rfl⟩) rfl rfl (PX.mk (fun j => if j = 0 then (g5 0) else 0) rfl rfl)
def fX7_wayText_42 (N K : Nat) (th : Int32) (f : Nat → Int32) (p0 : Int32) (k_28 : Int32 → Int32 → Int32 → Nat → (Nat → Int32) → Nat → Option (Int32)) : Nat → Int32 → Int32 → Int32 → Int32 → Nat → (Nat → Int32) → Nat → Option (Int32)
  | 0, _, _, _, _, _, _, _ => none
  | fu + 1, l3, l4, th_, o_v0_3, n_v1, e_v1, bd =>
    (if bd = 0 then none else (if l4 ≤ 0 then k_28 (l3 + (-1 : Int32)) th_ o_v0_3 n_v1 e_v1 (bd - 1) else ((fJ_length N K o_v0_3 n_v1 e_v1).bind (fun x48 => (if x48 ≤ 0 then ((fJ_appendI N K o_v0_3 n_v1 e_v1 l3).bind (fun x63 => fX7_wayText_42 N K th f p0 k_28 fu l3 (l4 + (-1 : Int32)) th_ x63.1 x63.2.1 x63.2.2 (bd - 1))) else ((fJ_appendC N K o_v0_3 n_v1 e_v1 (43 : Int32)).bind (fun x57 => ((fJ_appendI N K x57.1 x57.2.1 x57.2.2 l3).bind (fun x63_1 => fX7_wayText_42 N K th f p0 k_28 fu l3 (l4 + (-1 : Int32)) th_ x63_1.1 x63_1.2.1 x63_1.2.2 (bd - 1))))))))))
set_option maxHeartbeats 4000000 in
set_option maxRecDepth 100000 in
theorem tX7_wayText_42 {N K : Nat} {m Mo Lo Do tl ca w : Nat} {dd : Nat → Option Nat} {th : Int32} {f : Nat → Int32} {p0 : Int32} (hd : ¬ (p0 < 0 ∨ 2 ≤ p0.toNatClampNeg) → dd p0.toNatClampNeg = some w) {k_28 : Int32 → Int32 → Int32 → Nat → (Nat → Int32) → Nat → Option (Int32)} (hk_28 : ∀ (l3 : Int32) (th_ : Int32) (o_v0_3 : Int32) (n_v1 : Nat) (e_v1 : Nat → Int32) (bd : Nat) (v0 v1 : Nat), AW RX7 "wayText" cX7_wayText 5 (some (.object "java/lang/String")) [] (fun _ _ => True) (7) (PN (U := Int32) (fun _ ad => some (.ref (ad 0))) (fun zz ad => [(m, .inr (9, [.ref Mo, .ref Lo, .ref Do, .ref tl, .ref ca, .int zz])), (Do, .inl (4, 2, .inr (.inr (.inr (.inr dd))))), (w, .inl (0, 21, .inl f))])) (2 * bd + 2) (160 * bd + 84) (k_28 l3 th_ o_v0_3 n_v1 e_v1 bd) 28 [(0, .ref m), (1, .int p0), (2, .ref v0), (3, .int l3)] [] [(m, .inr (9, [.ref Mo, .ref Lo, .ref Do, .ref tl, .ref ca, .int th_])), (Do, .inl (4, 2, .inr (.inr (.inr (.inr dd))))), (w, .inl (0, 21, .inl f)), (v0, .inr (1, [.ref v1, .int (0 : Int32), .int (0 : Int32), .int o_v0_3])), (v1, .inl (5, n_v1, .inl e_v1))]) : ∀ (fu : Nat) (l3 : Int32) (l4 : Int32) (th_ : Int32) (o_v0_3 : Int32) (n_v1 : Nat) (e_v1 : Nat → Int32) (bd : Nat) (v0 v1 : Nat), AW RX7 "wayText" cX7_wayText 5 (some (.object "java/lang/String")) [] (fun _ _ => True) (7) (PN (U := Int32) (fun _ ad => some (.ref (ad 0))) (fun zz ad => [(m, .inr (9, [.ref Mo, .ref Lo, .ref Do, .ref tl, .ref ca, .int zz])), (Do, .inl (4, 2, .inr (.inr (.inr (.inr dd))))), (w, .inl (0, 21, .inl f))])) (2 * bd + 2) (160 * bd + 84) (fX7_wayText_42 N K th f p0 k_28 fu l3 l4 th_ o_v0_3 n_v1 e_v1 bd) 42 [(0, .ref m), (1, .int p0), (2, .ref v0), (3, .int l3), (4, .int l4)] [] [(m, .inr (9, [.ref Mo, .ref Lo, .ref Do, .ref tl, .ref ca, .int th_])), (Do, .inl (4, 2, .inr (.inr (.inr (.inr dd))))), (w, .inl (0, 21, .inl f)), (v0, .inr (1, [.ref v1, .int (0 : Int32), .int (0 : Int32), .int o_v0_3])), (v1, .inl (5, n_v1, .inl e_v1))] := by
  intro fu
  induction fu with
  | zero => intro l3 l4 th_ o_v0_3 n_v1 e_v1 bd v0 v1; exact aw_none
  | succ fu ih =>
    intro l3 l4 th_ o_v0_3 n_v1 e_v1 bd v0 v1
    refine aw_pos (fun hbd => ?_)
    refine aw_room (kc' := (2 * (bd - 1) + 4)) (ks' := (160 * (bd - 1) + 244)) (by omega) (by omega) ?_
    refine aw_iload (q := 44) gdX7_wayText_40.2.1 rfl 4 rfl ?_
    refine aw_if_le (tgt := 73) (q := 47) gdX7_wayText_40.2.2.1 (by decide) rfl (fun h_44 => ?_) (fun h_44 => ?_)
    · refine aw_iinc (q := 76) (v := (l3 + (-1 : Int32))) (lv' := [(3, .int (l3 + (-1 : Int32))), (0, .ref m), (1, .int p0), (2, .ref v0), (4, .int l4)]) gdX7_wayText_73.1 rfl 3 rfl rfl (by decide) rfl ?_
      refine aw_goto (tgt := 28) gdX7_wayText_73.2.1 (by decide) ?_
      refine aw_locals (lv' := [(0, .ref m), (1, .int p0), (2, .ref v0), (3, .int (l3 + (-1 : Int32)))]) [1, 2, 3, 0] rfl ?_
      refine aw_room (kc' := (2 * (bd - 1) + 2)) (ks' := (160 * (bd - 1) + 84)) (by omega) (by omega) ?_
      exact hk_28 _ _ _ _ _ _ _ _
    · refine aw_aload_n (q := 48) gdX7_wayText_40.2.2.2.1 rfl 2 rfl ?_
      refine aw_call (q := 51) (kc1 := (2 * (bd - 1) + 4)) (ks1 := (160 * (bd - 1) + 244)) (wc := [(v0, .inr (1, [.ref v1, .int (0 : Int32), .int (0 : Int32), .int o_v0_3])), (v1, .inl (5, n_v1, .inl e_v1))]) (wr := [(m, .inr (9, [.ref Mo, .ref Lo, .ref Do, .ref tl, .ref ca, .int th_])), (Do, .inl (4, 2, .inr (.inr (.inr (.inr dd))))), (w, .inl (0, 21, .inl f))]) (st1 := fun x48 g48 => [.int x48]) (ws1 := fun x48 g48 => [(m, .inr (9, [.ref Mo, .ref Lo, .ref Do, .ref tl, .ref ca, .int th_])), (Do, .inl (4, 2, .inr (.inr (.inr (.inr dd))))), (w, .inl (0, 21, .inl f)), (v0, .inr (1, [.ref v1, .int (0 : Int32), .int (0 : Int32), .int o_v0_3])), (v1, .inl (5, n_v1, .inl e_v1))]) (As := [.ref v0]) [3, 4] [0, 1, 2] (fun _ => runV (q0 := 3) gdX7_wayText_40.2.2.2.2.1 mi_J4_length_8abf5 im_J4_length_8abf5 se_J4_length_8abf5 ml_X7_182 (by omega) rfl (Nat.le_of_ble_eq_true rfl) rfl rfl rfl rfl) (fun x9 h9 => ok_J_length h9) rfl rfl rfl rfl rfl (by decide +kernel) (by omega) (by omega) (fun _ _ => rfl) (fun _ _ => rfl) (fun x48 g48 => ?_)
      refine aw_if_le (tgt := 61) (q := 54) gdX7_wayText_40.2.2.2.2.2.1 (by decide) rfl (fun h_51 => ?_) (fun h_51 => ?_)
      · refine aw_aload_n (q := 62) gdX7_wayText_57.2.2.1 rfl 2 rfl ?_
        refine aw_iload_n (q := 63) gdX7_wayText_57.2.2.2.1 rfl 3 rfl ?_
        refine aw_call (q := 66) (kc1 := (2 * (bd - 1) + 3)) (ks1 := (160 * (bd - 1) + 164)) (wc := [(v0, .inr (1, [.ref v1, .int (0 : Int32), .int (0 : Int32), .int o_v0_3])), (v1, .inl (5, n_v1, .inl e_v1))]) (wr := [(m, .inr (9, [.ref Mo, .ref Lo, .ref Do, .ref tl, .ref ca, .int th_])), (Do, .inl (4, 2, .inr (.inr (.inr (.inr dd))))), (w, .inl (0, 21, .inl f))]) (st1 := fun x63 g63 => [.ref v0]) (ws1 := fun x63 g63 => [(m, .inr (9, [.ref Mo, .ref Lo, .ref Do, .ref tl, .ref ca, .int th_])), (Do, .inl (4, 2, .inr (.inr (.inr (.inr dd))))), (w, .inl (0, 21, .inl f)), (v0, .inr (1, [.ref (g63 0), .int (0 : Int32), .int (0 : Int32), .int x63.1])), ((g63 0), .inl (5, x63.2.1, .inl x63.2.2))]) (As := [.ref v0, .int l3]) [3, 4] [0, 1, 2] (fun _ => runV (q0 := 3) gdX7_wayText_57.2.2.2.2.1 mi_J4_append_bf812 im_J4_append_bf812 se_J4_append_bf812 ml_X7_189 (by omega) rfl (Nat.le_of_ble_eq_true rfl) rfl rfl rfl rfl) (fun x9 h9 => ok_J_appendI h9) rfl rfl rfl rfl rfl (by decide +kernel) (by omega) (by omega) (fun _ _ => rfl) (fun _ _ => rfl) (fun x63 g63 => ?_)
        refine aw_pop (q := 67) gdX7_wayText_57.2.2.2.2.2.1 rfl rfl ?_
        refine aw_iinc (q := 70) (v := (l4 + (-1 : Int32))) (lv' := [(4, .int (l4 + (-1 : Int32))), (0, .ref m), (1, .int p0), (2, .ref v0), (3, .int l3)]) gdX7_wayText_57.2.2.2.2.2.2.1 rfl 4 rfl rfl (by decide) rfl ?_
        refine aw_goto (tgt := 42) gdX7_wayText_57.2.2.2.2.2.2.2 (by decide) ?_
        refine aw_locals (lv' := [(0, .ref m), (1, .int p0), (2, .ref v0), (3, .int l3), (4, .int (l4 + (-1 : Int32)))]) [1, 2, 3, 4, 0] rfl ?_
        refine aw_room (kc' := (2 * (bd - 1) + 2)) (ks' := (160 * (bd - 1) + 84)) (by omega) (by omega) ?_
        exact ih _ _ _ _ _ _ _ _ _
      · refine aw_aload_n (q := 55) gdX7_wayText_40.2.2.2.2.2.2.1 rfl 2 rfl ?_
        refine aw_bipush (q := 57) (v := 43) gdX7_wayText_40.2.2.2.2.2.2.2 rfl (by decide) ?_
        refine aw_call (q := 60) (kc1 := (2 * (bd - 1) + 3)) (ks1 := (160 * (bd - 1) + 164)) (wc := [(v0, .inr (1, [.ref v1, .int (0 : Int32), .int (0 : Int32), .int o_v0_3])), (v1, .inl (5, n_v1, .inl e_v1))]) (wr := [(m, .inr (9, [.ref Mo, .ref Lo, .ref Do, .ref tl, .ref ca, .int th_])), (Do, .inl (4, 2, .inr (.inr (.inr (.inr dd))))), (w, .inl (0, 21, .inl f))]) (st1 := fun x57 g57 => [.ref v0]) (ws1 := fun x57 g57 => [(m, .inr (9, [.ref Mo, .ref Lo, .ref Do, .ref tl, .ref ca, .int th_])), (Do, .inl (4, 2, .inr (.inr (.inr (.inr dd))))), (w, .inl (0, 21, .inl f)), (v0, .inr (1, [.ref (g57 0), .int (0 : Int32), .int (0 : Int32), .int x57.1])), ((g57 0), .inl (5, x57.2.1, .inl x57.2.2))]) (As := [.ref v0, .int (43 : Int32)]) [3, 4] [0, 1, 2] (fun _ => runV (q0 := 3) gdX7_wayText_57.1 mi_J4_append_cf468 im_J4_append_cf468 se_J4_append_cf468 ml_X7_185 (by omega) rfl (Nat.le_of_ble_eq_true rfl) rfl rfl rfl rfl) (fun x9 h9 => ok_J_appendC h9) rfl rfl rfl rfl rfl (by decide +kernel) (by omega) (by omega) (fun _ _ => rfl) (fun _ _ => rfl) (fun x57 g57 => ?_)
        refine aw_pop (q := 61) gdX7_wayText_57.2.1 rfl rfl ?_
        refine aw_aload_n (q := 62) gdX7_wayText_57.2.2.1 rfl 2 rfl ?_
        refine aw_iload_n (q := 63) gdX7_wayText_57.2.2.2.1 rfl 3 rfl ?_
        refine aw_call (q := 66) (kc1 := (2 * (bd - 1) + 2)) (ks1 := (160 * (bd - 1) + 84)) (wc := [(v0, .inr (1, [.ref (g57 0), .int (0 : Int32), .int (0 : Int32), .int x57.1])), ((g57 0), .inl (5, x57.2.1, .inl x57.2.2))]) (wr := [(m, .inr (9, [.ref Mo, .ref Lo, .ref Do, .ref tl, .ref ca, .int th_])), (Do, .inl (4, 2, .inr (.inr (.inr (.inr dd))))), (w, .inl (0, 21, .inl f))]) (st1 := fun x63_1 g63_1 => [.ref v0]) (ws1 := fun x63_1 g63_1 => [(m, .inr (9, [.ref Mo, .ref Lo, .ref Do, .ref tl, .ref ca, .int th_])), (Do, .inl (4, 2, .inr (.inr (.inr (.inr dd))))), (w, .inl (0, 21, .inl f)), (v0, .inr (1, [.ref (g63_1 0), .int (0 : Int32), .int (0 : Int32), .int x63_1.1])), ((g63_1 0), .inl (5, x63_1.2.1, .inl x63_1.2.2))]) (As := [.ref v0, .int l3]) [3, 4] [0, 1, 2] (fun _ => runV (q0 := 3) gdX7_wayText_57.2.2.2.2.1 mi_J4_append_bf812 im_J4_append_bf812 se_J4_append_bf812 ml_X7_189 (by omega) rfl (Nat.le_of_ble_eq_true rfl) rfl rfl rfl rfl) (fun x9 h9 => ok_J_appendI h9) rfl rfl rfl rfl rfl (by decide +kernel) (by omega) (by omega) (fun _ _ => rfl) (fun _ _ => rfl) (fun x63_1 g63_1 => ?_)
        refine aw_pop (q := 67) gdX7_wayText_57.2.2.2.2.2.1 rfl rfl ?_
        refine aw_iinc (q := 70) (v := (l4 + (-1 : Int32))) (lv' := [(4, .int (l4 + (-1 : Int32))), (0, .ref m), (1, .int p0), (2, .ref v0), (3, .int l3)]) gdX7_wayText_57.2.2.2.2.2.2.1 rfl 4 rfl rfl (by decide) rfl ?_
        refine aw_goto (tgt := 42) gdX7_wayText_57.2.2.2.2.2.2.2 (by decide) ?_
        refine aw_locals (lv' := [(0, .ref m), (1, .int p0), (2, .ref v0), (3, .int l3), (4, .int (l4 + (-1 : Int32)))]) [1, 2, 3, 4, 0] rfl ?_
        refine aw_room (kc' := (2 * (bd - 1) + 2)) (ks' := (160 * (bd - 1) + 84)) (by omega) (by omega) ?_
        exact ih _ _ _ _ _ _ _ _ _
def fX7_wayText_28 (N K : Nat) (th : Int32) (f : Nat → Int32) (p0 : Int32) : Nat → Int32 → Int32 → Int32 → Nat → (Nat → Int32) → Nat → Option (Int32)
  | 0, _, _, _, _, _, _ => none
  | fu + 1, l3, th_, o_v0_3, n_v1, e_v1, bd =>
    (if l3 ≤ 0 then ((fJ_toString N K o_v0_3 n_v1 e_v1).bind (fun x80 => (some th_))) else (if p0 < 0 ∨ 2 ≤ p0.toNatClampNeg then none else (if l3 < 0 ∨ 21 ≤ l3.toNatClampNeg then none else fX7_wayText_42 N K th f p0 (fX7_wayText_28 N K th f p0  fu) N l3 (f l3.toNatClampNeg) th_ o_v0_3 n_v1 e_v1 bd)))
set_option maxHeartbeats 4000000 in
set_option maxRecDepth 100000 in
theorem tX7_wayText_28 {N K : Nat} {m Mo Lo Do tl ca w : Nat} {dd : Nat → Option Nat} {th : Int32} {f : Nat → Int32} {p0 : Int32} (hd : ¬ (p0 < 0 ∨ 2 ≤ p0.toNatClampNeg) → dd p0.toNatClampNeg = some w) : ∀ (fu : Nat) (l3 : Int32) (th_ : Int32) (o_v0_3 : Int32) (n_v1 : Nat) (e_v1 : Nat → Int32) (bd : Nat) (v0 v1 : Nat), AW RX7 "wayText" cX7_wayText 5 (some (.object "java/lang/String")) [] (fun _ _ => True) (7) (PN (U := Int32) (fun _ ad => some (.ref (ad 0))) (fun zz ad => [(m, .inr (9, [.ref Mo, .ref Lo, .ref Do, .ref tl, .ref ca, .int zz])), (Do, .inl (4, 2, .inr (.inr (.inr (.inr dd))))), (w, .inl (0, 21, .inl f))])) (2 * bd + 2) (160 * bd + 84) (fX7_wayText_28 N K th f p0  fu l3 th_ o_v0_3 n_v1 e_v1 bd) 28 [(0, .ref m), (1, .int p0), (2, .ref v0), (3, .int l3)] [] [(m, .inr (9, [.ref Mo, .ref Lo, .ref Do, .ref tl, .ref ca, .int th_])), (Do, .inl (4, 2, .inr (.inr (.inr (.inr dd))))), (w, .inl (0, 21, .inl f)), (v0, .inr (1, [.ref v1, .int (0 : Int32), .int (0 : Int32), .int o_v0_3])), (v1, .inl (5, n_v1, .inl e_v1))] := by
  intro fu
  induction fu with
  | zero => intro l3 th_ o_v0_3 n_v1 e_v1 bd v0 v1; exact aw_none
  | succ fu ih =>
    intro l3 th_ o_v0_3 n_v1 e_v1 bd v0 v1
    refine aw_iload_n (q := 29) gdX7_wayText_28.1 rfl 3 rfl ?_
    refine aw_if_le (tgt := 79) (q := 32) gdX7_wayText_28.2.1 (by decide) rfl (fun h_29 => ?_) (fun h_29 => ?_)
    · refine aw_aload_n (q := 80) gdX7_wayText_73.2.2.1 rfl 2 rfl ?_
      refine aw_call (q := 83) (kc1 := (2 * bd)) (ks1 := (160 * bd)) (wc := [(v0, .inr (1, [.ref v1, .int (0 : Int32), .int (0 : Int32), .int o_v0_3])), (v1, .inl (5, n_v1, .inl e_v1))]) (wr := [(m, .inr (9, [.ref Mo, .ref Lo, .ref Do, .ref tl, .ref ca, .int th_])), (Do, .inl (4, 2, .inr (.inr (.inr (.inr dd))))), (w, .inl (0, 21, .inl f))]) (st1 := fun x80 g80 => [.ref (g80 0)]) (ws1 := fun x80 g80 => [(m, .inr (9, [.ref Mo, .ref Lo, .ref Do, .ref tl, .ref ca, .int th_])), (Do, .inl (4, 2, .inr (.inr (.inr (.inr dd))))), (w, .inl (0, 21, .inl f)), (v0, .inr (1, [.ref v1, .int (0 : Int32), .int (0 : Int32), .int o_v0_3])), (v1, .inl (5, n_v1, .inl e_v1))]) (As := [.ref v0]) [3, 4] [0, 1, 2] (fun _ => runV (q0 := 3) gdX7_wayText_73.2.2.2.1 mi_J4_toString_0e30d im_J4_toString_0e30d se_J4_toString_0e30d ml_X7_192 (by omega) rfl (Nat.le_of_ble_eq_true rfl) rfl rfl rfl rfl) (fun x9 h9 => ok_J_toString h9) rfl rfl rfl rfl rfl (by decide +kernel) (by omega) (by omega) (fun _ _ => rfl) (fun _ _ => rfl) (fun x80 g80 => ?_)
      exact aw_areturn (w := [(m, .inr (9, [.ref Mo, .ref Lo, .ref Do, .ref tl, .ref ca, .int th_])), (Do, .inl (4, 2, .inr (.inr (.inr (.inr dd))))), (w, .inl (0, 21, .inl f))]) [0, 1, 2] gdX7_wayText_73.2.2.2.2 rfl (Or.inl ⟨_, rfl⟩) rfl rfl (PN.mk (fun j => if j = 0 then (g80 0) else 0) rfl rfl)
    · refine aw_aload_n (q := 33) gdX7_wayText_28.2.2.1 rfl 0 rfl ?_
      refine aw_get (q := 36) gdX7_wayText_28.2.2.2.1 rfl fl_X7_17 0 rfl rfl ?_
      refine aw_iload_n (q := 37) gdX7_wayText_28.2.2.2.2.1 rfl 1 rfl ?_
      refine aw_aald (q := 38) gdX7_wayText_28.2.2.2.2.2.1 rfl 1 rfl (by decide) rfl hd ?_
      refine aw_iload_n (q := 39) gdX7_wayText_28.2.2.2.2.2.2.1 rfl 3 rfl ?_
      refine aw_iald (q := 40) gdX7_wayText_28.2.2.2.2.2.2.2 rfl 2 rfl ?_
      refine aw_istore (q := 42) (lv' := [(4, .int (f l3.toNatClampNeg)), (0, .ref m), (1, .int p0), (2, .ref v0), (3, .int l3)]) gdX7_wayText_40.1 rfl (by decide) rfl ?_
      refine aw_locals (lv' := [(0, .ref m), (1, .int p0), (2, .ref v0), (3, .int l3), (4, .int (f l3.toNatClampNeg))]) [1, 2, 3, 4, 0] rfl ?_
      refine aw_room (kc' := (2 * bd + 2)) (ks' := (160 * bd + 84)) (by omega) (by omega) ?_
      exact tX7_wayText_42 hd ih N _ _ _ _ _ _ _ _ _
def fX7_wayText (N K : Nat) (th : Int32) (f : Nat → Int32) (p0 : Int32) : Option (Int32) :=
  ((fX7_isNo N K p0 (0 : Int32) (1 : Int32)).bind (fun x4 => ((fX7_isThrown N K th x4 (0 : Int32)).bind (fun x8 => (if x8.1 = 0 then ((fJ_init4 N K ).bind (fun x21 => fX7_wayText_28 N K th f p0  N (20 : Int32) x8.2 (0 : Int32) x21.1 x21.2 41)) else (some x8.2))))))
set_option maxHeartbeats 4000000 in
set_option maxRecDepth 100000 in
theorem ok_X7_wayText {N K : Nat} {m Mo Lo Do tl ca w : Nat} {dd : Nat → Option Nat} {th : Int32} {f : Nat → Int32} {p0 : Int32} (hd : ¬ (p0 < 0 ∨ 2 ≤ p0.toNatClampNeg) → dd p0.toNatClampNeg = some w) {xr : Int32} (hE : fX7_wayText N K th f p0 = some xr) : OkM yX7_wayText (.code yX7_wayText cX7_wayText 5 (some (.object "java/lang/String"))) (7) 110 8000 [.ref m, .int p0] [(m, .inr (9, [.ref Mo, .ref Lo, .ref Do, .ref tl, .ref ca, .int th])), (Do, .inl (4, 2, .inr (.inr (.inr (.inr dd))))), (w, .inl (0, 21, .inl f))] ((PN (U := Int32) (fun _ ad => some (.ref (ad 0))) (fun zz ad => [(m, .inr (9, [.ref Mo, .ref Lo, .ref Do, .ref tl, .ref ca, .int zz])), (Do, .inl (4, 2, .inr (.inr (.inr (.inr dd))))), (w, .inl (0, 21, .inl f))])) xr) := by
  refine ok_of (by decide) (Nat.le_of_ble_eq_true rfl) hE ?_
  refine aw_locals (lv' := [(0, .ref m), (1, .int p0)]) [0, 1] rfl ?_
  refine aw_aload_n (q := 1) gdX7_wayText_0.1 rfl 0 rfl ?_
  refine aw_iload_n (q := 2) gdX7_wayText_0.2.1 rfl 1 rfl ?_
  refine aw_iconst (q := 3) (v := 0) gdX7_wayText_0.2.2.1 rfl (by decide) ?_
  refine aw_iconst (q := 4) (v := 1) gdX7_wayText_0.2.2.2.1 rfl (by decide) ?_
  refine aw_call (q := 7) (kc1 := 110) (ks1 := 8000) (wc := []) (wr := [(m, .inr (9, [.ref Mo, .ref Lo, .ref Do, .ref tl, .ref ca, .int th])), (Do, .inl (4, 2, .inr (.inr (.inr (.inr dd))))), (w, .inl (0, 21, .inl f))]) (st1 := fun x4 g4 => [.int x4, .ref m]) (ws1 := fun x4 g4 => [(m, .inr (9, [.ref Mo, .ref Lo, .ref Do, .ref tl, .ref ca, .int th])), (Do, .inl (4, 2, .inr (.inr (.inr (.inr dd))))), (w, .inl (0, 21, .inl f))]) (As := [.int p0, .int (0 : Int32), .int (1 : Int32)]) [] [0, 1, 2] (fun _ => runS gdX7_wayText_0.2.2.2.2.1 mi_X7_isNo st_X7_isNo ml_X7_31 (by omega) rfl (Nat.le_of_ble_eq_true rfl) rfl) (fun x9 h9 => ok_X7_isNo h9) rfl rfl rfl rfl rfl (by decide +kernel) (by omega) (by omega) (fun _ _ => rfl) (fun _ _ => rfl) (fun x4 g4 => ?_)
  refine aw_iconst (q := 8) (v := 0) gdX7_wayText_0.2.2.2.2.2.1 rfl (by decide) ?_
  refine aw_call (q := 11) (kc1 := 110) (ks1 := 8000) (wc := [(m, .inr (9, [.ref Mo, .ref Lo, .ref Do, .ref tl, .ref ca, .int th]))]) (wr := [(Do, .inl (4, 2, .inr (.inr (.inr (.inr dd))))), (w, .inl (0, 21, .inl f))]) (st1 := fun x8 g8 => [.int x8.1]) (ws1 := fun x8 g8 => [(Do, .inl (4, 2, .inr (.inr (.inr (.inr dd))))), (w, .inl (0, 21, .inl f)), (m, .inr (9, [.ref Mo, .ref Lo, .ref Do, .ref tl, .ref ca, .int x8.2]))]) (As := [.ref m, .int x4, .int (0 : Int32)]) [0] [1, 2] (fun _ => runV (q0 := 0) gdX7_wayText_0.2.2.2.2.2.2.1 mi_X7_isThrown im_X7_isThrown se_X7_isThrown ml_X7_110 (by omega) rfl (Nat.le_of_ble_eq_true rfl) rfl rfl rfl rfl) (fun x9 h9 => ok_X7_isThrown h9) rfl rfl rfl rfl rfl (by decide +kernel) (by omega) (by omega) (fun _ _ => rfl) (fun _ _ => rfl) (fun x8 g8 => ?_)
  refine aw_if_eq (tgt := 17) (q := 14) gdX7_wayText_0.2.2.2.2.2.2.2 (by decide) rfl (fun h_11 => ?_) (fun h_11 => ?_)
  · refine aw_new (q := 20) (kc' := 109) (ks' := 7996) (ws' := fun r17 => [(Do, .inl (4, 2, .inr (.inr (.inr (.inr dd))))), (w, .inl (0, 21, .inl f)), (m, .inr (9, [.ref Mo, .ref Lo, .ref Do, .ref tl, .ref ca, .int x8.2])), (r17, .inr (1, [.null, .int (0 : Int32), .int (0 : Int32), .int (0 : Int32)]))]) gdX7_wayText_14.2.2.1 rfl nw_X7_179 (by omega) (by omega) (fun _ => rfl) (fun r17 => ?_)
    refine aw_dup (q := 21) gdX7_wayText_14.2.2.2.1 rfl rfl ?_
    refine aw_call (q := 24) (kc1 := 108) (ks1 := 7916) (wc := [(r17, .inr (1, [.null, .int (0 : Int32), .int (0 : Int32), .int (0 : Int32)]))]) (wr := [(Do, .inl (4, 2, .inr (.inr (.inr (.inr dd))))), (w, .inl (0, 21, .inl f)), (m, .inr (9, [.ref Mo, .ref Lo, .ref Do, .ref tl, .ref ca, .int x8.2]))]) (st1 := fun x21 g21 => [.ref r17]) (ws1 := fun x21 g21 => [(Do, .inl (4, 2, .inr (.inr (.inr (.inr dd))))), (w, .inl (0, 21, .inl f)), (m, .inr (9, [.ref Mo, .ref Lo, .ref Do, .ref tl, .ref ca, .int x8.2])), (r17, .inr (1, [.ref (g21 0), .int (0 : Int32), .int (0 : Int32), .int (0 : Int32)])), ((g21 0), .inl (5, x21.1, .inl x21.2))]) (As := [.ref r17]) [3] [0, 1, 2] (fun _ => runI gdX7_wayText_14.2.2.2.2.1 mi_J4_init_da8c8 rfl im_J4_init_da8c8 ml_X7_181 (by omega) rfl (Nat.le_of_ble_eq_true rfl) rfl) (fun x9 h9 => ok_J_init4 h9) rfl rfl rfl rfl rfl (by decide +kernel) (by omega) (by omega) (fun _ _ => rfl) (fun _ _ => rfl) (fun x21 g21 => ?_)
    refine aw_astore_n (q := 25) (lv' := [(2, .ref r17), (0, .ref m), (1, .int p0)]) gdX7_wayText_14.2.2.2.2.2.1 rfl (by decide) rfl ?_
    refine aw_bipush (q := 27) (v := 20) gdX7_wayText_14.2.2.2.2.2.2.1 rfl (by decide) ?_
    refine aw_istore_n (q := 28) (lv' := [(3, .int (20 : Int32)), (2, .ref r17), (0, .ref m), (1, .int p0)]) gdX7_wayText_14.2.2.2.2.2.2.2 rfl (by decide) rfl ?_
    refine aw_locals (lv' := [(0, .ref m), (1, .int p0), (2, .ref r17), (3, .int (20 : Int32))]) [2, 3, 1, 0] rfl ?_
    refine aw_world (ws' := [(m, .inr (9, [.ref Mo, .ref Lo, .ref Do, .ref tl, .ref ca, .int x8.2])), (Do, .inl (4, 2, .inr (.inr (.inr (.inr dd))))), (w, .inl (0, 21, .inl f)), (r17, .inr (1, [.ref (g21 0), .int (0 : Int32), .int (0 : Int32), .int (0 : Int32)])), ((g21 0), .inl (5, x21.1, .inl x21.2))]) [2, 0, 1, 3, 4] rfl rfl ?_
    refine aw_room (kc' := (2 * 41 + 2)) (ks' := (160 * 41 + 84)) (by omega) (by omega) ?_
    exact tX7_wayText_28 hd N _ _ _ _ _ _ _ _
  · refine aw_ldcS (q := 16) (tx := "") gdX7_wayText_14.1 rfl (by decide) (fun r14 => ?_)
    exact aw_areturn (w := [(m, .inr (9, [.ref Mo, .ref Lo, .ref Do, .ref tl, .ref ca, .int x8.2])), (Do, .inl (4, 2, .inr (.inr (.inr (.inr dd))))), (w, .inl (0, 21, .inl f))]) [2, 0, 1] gdX7_wayText_14.2.1 rfl (Or.inl ⟨_, rfl⟩) rfl rfl (PN.mk (fun j => if j = 0 then r14 else 0) rfl rfl)

end MG_35text
section MG_40law
section AWL
variable {own nm : String} {cc : ByteArray} {nL : Nat} {ret : Option FieldType} {hh : List (Nat × Nat × Nat × Nat)} {X : aX} {d : Nat} {T : Type} {post : T → aO → aW → Prop} {kc ks : Nat} {o : Option T} {pc q : Nat} {lv lv' : List (Nat × Value)} {st : List Value} {ws : aW}
/-! ===== frames of contracts; handlers; the script ===== -/
theorem ok_fr {y : MethodName} {w0 : Cond} {kc0 ks0 : Nat} {args : List Value} {wc wr : aW} {P P' : aO → aW → Prop} (isC isR : List Nat) (hok : OkM y w0 d kc0 ks0 args wc P) (hnC : va_nd isC = true) (hC : isC.map (fun i => ws[i]?) = wc.map some) (hR : isR.map (fun i => ws[i]?) = wr.map some) (hnR : va_nd isR = true) (hdis : ∀ i ∈ isR, i ∉ isC)
    (h : ∀ o w, P o w → ∃ (w' : aW) (js : List Nat), P' o w' ∧ va_nd js = true ∧ js.map (fun i => (wr ++ w)[i]?) = w'.map some) : OkM y w0 d kc0 ks0 args ws P' := by
  intro l D TY sz hlt
  have hM := hok l D TY sz hlt
  have hC' := re_places (TY := TY) hC
  have hR' := re_places (TY := TY) hR
  intro p e ha hc hk s m a below hf happ hP hK0
  obtain ⟨ha0, hsz, hPw, hKw, hDw, hZw⟩ := hP
  subst hsz
  have hDs : va_D (va_A (re TY ws) s.heap.size) (re TY ws) := hDw.self
  have hF : ∀ q, va_A (re TY wc) s.heap.size q → va_A (re TY ws) s.heap.size q := va_free (H0 := s.heap) (H := s.heap) (locs := []) hDs va_S.rf (fun q h => Or.inr h) isC hC'
  obtain ⟨n, o, h1, h2, h3, h4⟩ := hM p e ha hc hk s m a below hf happ ⟨ha0, rfl, re_sub hPw hC', hKw, hDw.sub isC hnC hC', ZF.to hZw (fun _ _ _ => rfl) (State.WarmedH.refl s) hF⟩ hK0
  refine ⟨n, o, h1, h2, h3, ?_⟩
  rcases h4 with ⟨⟨⟨v, w, hv, hp, hPw2, hDw2⟩, hFr⟩, L, hE, hL⟩ | ⟨q, ho, E, ce, L, ⟨⟨w, hp, hPw2, hDw2⟩, hFr⟩, hce, hcv, hcl, hW, hsame, hL⟩
  · obtain ⟨w', js, hp', hn', hj⟩ := h _ _ hp
    have hj' := re_places (TY := TY) hj
    obtain ⟨j1, j2⟩ := va_join hPw hDs isC isR hC' hR' hnR hdis hFr.2 hF hPw2 hDw2
    rw [← re_app] at j1 j2
    exact Or.inl ⟨⟨⟨v, w', hv, hp', re_sub j1 hj', j2.sub js hn' hj'⟩, hFr.1, fun q g1 g2 => hFr.2 q g1 (fun g3 => g2 (hF q g3))⟩, L, hE, fun q hq => hF _ (hL q hq)⟩
  · obtain ⟨w', js, hp', hn', hj⟩ := h _ _ hp
    have hj' := re_places (TY := TY) hj
    obtain ⟨j1, j2⟩ := va_join hPw hDs isC isR hC' hR' hnR hdis hFr.2 hF hPw2 hDw2
    rw [← re_app] at j1 j2
    exact Or.inr ⟨q, ho, E, ce, L, ⟨⟨w', hp', re_sub j1 hj', j2.sub js hn' hj'⟩, hFr.1, fun q g1 g2 => hFr.2 q g1 (fun g3 => g2 (hF q g3))⟩, hce, hcv, hcl, hW, hsame, fun q hq => hF _ (hL q hq)⟩
/-- a contract's consequence -/
theorem ok_mono {y : MethodName} {w0 : Cond} {kc0 ks0 : Nat} {args : List Value} {P P' : aO → aW → Prop} (hok : OkM y w0 d kc0 ks0 args ws P) (h : ∀ o w, P o w → P' o w) : OkM y w0 d kc0 ks0 args ws P' := by
  intro l D TY sz hlt p e ha hc hk s m a below hf happ hP hK0
  obtain ⟨n, o, h1, h2, h3, h4⟩ := hok l D TY sz hlt p e ha hc hk s m a below hf happ hP hK0
  refine ⟨n, o, h1, h2, h3, ?_⟩
  rcases h4 with ⟨⟨⟨v, w, hv, hp, hPw2, hDw2⟩, hFr⟩, L, hE, hL⟩ | ⟨q, ho, E, ce, L, ⟨⟨w, hp, hPw2, hDw2⟩, hFr⟩, hce, hcv, hcl, hW, hsame, hL⟩
  · exact Or.inl ⟨⟨⟨v, w, hv, h _ _ hp, hPw2, hDw2⟩, hFr⟩, L, hE, hL⟩
  · exact Or.inr ⟨q, ho, E, ce, L, ⟨⟨w, h _ _ hp, hPw2, hDw2⟩, hFr⟩, hce, hcv, hcl, hW, hsame, hL⟩
/-- more room than is used -/
theorem aw_none' (h : o = none) : AW own nm cc nL ret hh X d post kc ks o pc lv st ws := fun x hx => by rw [h] at hx; cases hx
theorem aw_eq {o' : Option T} (h : o = o') (K : AW own nm cc nL ret hh X d post kc ks o' pc lv st ws) : AW own nm cc nL ret hh X d post kc ks o pc lv st ws := by rw [h]; exact K
def wb {U : Type} (u : Option (U ⊕ String)) (kf : U → Option T) (k1 k2 : Option T) : Option T := match u with
  | none => none
  | some (.inr E) => if E = "java/lang/IndexOutOfBoundsException" then k1 else if E = "java/lang/IllegalArgumentException" then k2 else none
  | some (.inl a) => kf a
/-- E, thrown at pc, is caught at hp -/
def CT (own : String) (hh : List (Nat × Nat × Nat × Nat)) (pc : Nat) (E : String) (hp : Nat) : Prop := ∃ (pre : List ExceptionTableEntry) (x : ExceptionTableEntry) (suf : List ExceptionTableEntry) (nm : String), tableOf hh = pre ++ x :: suf ∧ (∀ z ∈ pre, z.catchType ≠ 0 ∧ E = "java/lang/IllegalArgumentException" ∧ Cond.classLink own z.catchType "java/lang/IndexOutOfBoundsException" ∈ TB) ∧ covers x pc = true ∧ x.catchType ≠ 0 ∧ Cond.classLink own x.catchType nm ∈ TB ∧ Cond.castable E nm ∈ NGW ∧ x.handlerPc = hp
/-- a call of a method that may throw, both kinds caught -/
theorem aw_callC {U : Type} {index d' kc' ks' kc1 ks1 hp1 hp2 : Nat} {y : MethodName} {w0 : Cond} {As st0 : List Value} {wc wr : aW} {val : U → (Nat → Nat) → Option Value} {wf : U → (Nat → Nat) → aW} {u : Option (U ⊕ String)} {Kf : U → Option T} {k1 k2 : Option T} {st1 : U → (Nat → Nat) → List Value} {ws1 : U → (Nat → Nat) → aW} (isC isR : List Nat)
    (hr : ∀ P : aO → aW → Prop, RunOf own cc nL d pc index y w0 d' kc' ks' As st st0 ws wc P) (hok : ∀ x, u = some x → OkM y w0 d' kc' ks' As wc (PX val wf wc x)) (hq : pc + 3 = q) (hnC : va_nd isC = true) (hC : isC.map (fun i => ws[i]?) = wc.map some) (hR : isR.map (fun i => ws[i]?) = wr.map some) (hn : va_nd isR = true) (hdis : ∀ i ∈ isR, i ∉ isC) (h1 : kc1 + kc' ≤ kc) (h2 : ks1 + ks' ≤ ks)
    (hst1 : ∀ x g, (val x g).toList ++ st = st1 x g) (hws1 : ∀ x g, wr ++ wf x g = ws1 x g)
    (hx1 : k1 = none ∨ (CT own hh pc "java/lang/IndexOutOfBoundsException" hp1 ∧ ∀ q9 : Nat, AW own nm cc nL ret hh X d post kc1 ks1 k1 hp1 lv [.ref q9] (wr ++ wc)))
    (hx2 : k2 = none ∨ (CT own hh pc "java/lang/IllegalArgumentException" hp2 ∧ ∀ q9 : Nat, AW own nm cc nL ret hh X d post kc1 ks1 k2 hp2 lv [.ref q9] (wr ++ wc)))
    (K : ∀ x g, AW own nm cc nL ret hh X d post kc1 ks1 (Kf x) q lv (st1 x g) (ws1 x g)) : AW own nm cc nL ret hh X d post kc ks (wb u Kf k1 k2) pc lv st0 ws := by
  subst hq
  intro z hz p l e R s m args below meth c D TY A H locs cells slots mc ms ls C hK hZ hd1 hd2 hc1 hc2 hc3 hc4 hP hD hS hl0
  cases hu : u with
  | none => rw [hu] at hz; cases hz
  | some x =>
    rw [hu] at hz
    have hF := (pc_of (As := As) (p := p) (l := l) (m := m) (args := args) (meth := meth) (c := c) hK hZ hP hD hS C.2.2.2.2.2.2.2.2.2.2.2 hnC hC).2.2
    refine aw_run hC hR hn hdis hP hD hS hF (hr _ p l e R s m args below meth c D TY A H locs cells slots ls isC C.1 C.2.1 C.2.2.1 C.2.2.2.2.1 C.2.2.2.2.2.1 C.2.2.2.2.2.2.2.2.2.1 C.2.2.2.2.2.2.2.2.2.2.2 hK hZ hd1 hd2 (by omega) (by omega) hP hD hS hl0.1 hnC hC (hok x hu)) (fun v w H1 locs1 hp hP1 hD1 hS1 => ?_) (fun E w ce q9 H1 locs1 hp hP1 hD1 hS1 hce hcv hcl => ?_)
    · cases x with
      | inr E => obtain ⟨e1, -⟩ := hp; cases e1
      | inl x =>
        obtain ⟨g, e1, e2⟩ := hp
        cases e1
        subst e2
        rw [hws1] at hP1 hD1
        rw [hst1]
        exact K x g z hz p l e R s m args below meth c D TY A H1 locs1 (cells + kc') (slots + ks') mc ms ls C hK hZ hd1 hd2 hc1 hc2 (by omega) (by omega) hP1 hD1 hS1 hl0
    · cases x with
      | inl x => obtain ⟨g, e1, -⟩ := hp; cases e1
      | inr E' =>
        obtain ⟨e1, e2⟩ := hp
        cases e1
        subst e2
        have fin : ∀ (kE : Option T) (hp : Nat), kE = some z → CT own hh pc E hp → (∀ q9 : Nat, AW own nm cc nL ret hh X d post kc1 ks1 kE hp lv [.ref q9] (wr ++ w)) → vx_W p l e R s m args below meth c H1 locs1 (cells + kc') (slots + ks') (vx_MQ below (QC D TY A (post z)) (XC D TY A (post z)) args s mc ms A) (F0 m pc ls st) q9 := by
          intro kE hp hkE hct hk
          obtain ⟨pre, x, suf, nm', t1, t2, t3, t4, t5, t6, t7⟩ := hct
          refine vx_catch C.2.2.2.2.1 pre x suf (C.2.2.2.2.2.2.2.2.1.trans t1) (fun z9 h9 => ?_) t3 t4 (C.2.2.2.2.2.1 _ t5) (NGW_use t6 (hZ.2.2.2.2.2.1 _ t6)) hce hcv hcl ?_
          · obtain ⟨a1, a2, a3⟩ := t2 z9 h9
            exact Or.inr ⟨a1, _, C.2.2.2.2.2.1 _ a3, by rw [a2]; exact hZ.2.2.2.2.2.2.2.1⟩
          · rw [t7]
            exact hk q9 z hkE p l e R s m args below meth c D TY A H1 locs1 (cells + kc') (slots + ks') mc ms ls C hK hZ hd1 hd2 hc1 hc2 (by omega) (by omega) hP1 hD1 hS1 hl0
        have hz' : (if E = "java/lang/IndexOutOfBoundsException" then k1 else if E = "java/lang/IllegalArgumentException" then k2 else none) = some z := hz
        by_cases g1 : E = "java/lang/IndexOutOfBoundsException"
        · rw [if_pos g1] at hz'
          rcases hx1 with h | ⟨hc, hk⟩
          · rw [h] at hz'; cases hz'
          · exact fin k1 hp1 hz' (by rw [g1]; exact hc) hk
        · rw [if_neg g1] at hz'
          by_cases g2 : E = "java/lang/IllegalArgumentException"
          · rw [if_pos g2] at hz'
            rcases hx2 with h | ⟨hc, hk⟩
            · rw [h] at hz'; cases hz'
            · exact fin k2 hp2 hz' (by rw [g2]; exact hc) hk
          · rw [if_neg g2] at hz'; cases hz'
/-- what a called method with handlers is -/
def MIX (y : MethodName) (bytes : ByteArray) (maxL n : Nat) (ret : Option FieldType) (hh : List (Nat × Nat × Nat × Nat)) : Prop := Cond.codeWith y bytes maxL ret hh ∈ TB ∧ Cond.initialized y.cls ∈ TB ∧ (y.cls ≠ "java/lang/invoke/MethodHandle" ∧ y.cls ≠ "java/lang/invoke/VarHandle") ∧ (parseMethodDescriptor y.desc).map (fun d => d.parameters.length) = some n ∧ maxL ≤ 45
theorem runSX {y : MethodName} {bytes : ByteArray} {maxL n index d' kc' ks' : Nat} {ret' : Option FieldType} {h2 : List (Nat × Nat × Nat × Nat)} {As : List Value} {st0 : List Value} {wc : aW} {P : aO → aW → Prop} (dg : decode cc pc = .ok (.invokestatic index, 3)) (hm : MIX y bytes maxL n ret' h2) (hi : Cond.static y ∈ TB) (hl : Cond.methodLink own index y ∈ TB) (hd : d' + 1 ≤ d) (hn : As.length = n) (hst : (st.map fun v => v.category).sum ≤ 8) (hst0 : st0 = As.reverse ++ st) :
    RunOf own cc nL d pc index y (.codeWith y bytes maxL ret' h2) d' kc' ks' As st st0 ws wc P := by
  subst hst0
  intro p l e R s m args below meth c D TY A H locs cells slots ls is hx hb hml hown hts hlt hA hK hZ hd1 hd2 hc1 hc2 hP hD hS hls hnd hC hok
  obtain ⟨hbl, hpc, hF⟩ := pc_of (As := As) (p := p) (l := l) (m := m) (args := args) (meth := meth) (c := c) hK hZ hP hD hS hA hnd hC
  obtain ⟨m1, m2, m3, m4, m5⟩ := hm
  refine vx_runSX (hh := h2) (bytes := bytes) (maxL := maxL) (ret := ret') (cc := cc) (nL := nL) (Ts := TB) ⟨hx, hb, hml, hown, hts⟩ (hok l D TY H.size hlt) ⟨⟨rfl, rfl, by show d' + 1 ≤ R.frames; omega, by show 8 + (maxL + 11) + 64 * d' ≤ R.locals; omega, ws_stay hts m1, List.mem_cons_self⟩, hts _ m1, hts _ m2, m3, fun sig h => ?_, hts _ hl, hts _ hi⟩ ⟨hbl, hpc⟩ rfl hn hls rfl (lv_room hst) dg ⟨hc1, hc2⟩
  rw [h] at m4
  exact (Option.some.inj m4).symm
/-- the contract of a method with handlers -/
theorem ok_ofH {y : MethodName} {bytes : ByteArray} {args : List Value} {x : T} (hy : plainName y.cls = true) (hlen : (lg_sl args).length ≤ nL) (hox : o = some x) (K : AW y.cls y.name bytes nL ret hh (fun _ _ => True) d post kc ks o 0 (lv_args 0 args) [] ws) : OkM y (.codeWith y bytes nL ret hh) d kc ks args ws (post x) := by
  intro l D TY sz hlt
  refine vx_ofWH (cc := bytes) (maxL := nL) (ret := ret) (hh := hh) hy rfl ?_
  intro p e s m args' below meth c s₁ B hml hv
  obtain ⟨rfl, hsz, hP, hK, hD0, hZ⟩ := hv
  subst hsz
  have hts := atoms_spec (ws := Cond.codeWith y bytes nL ret hh :: TB) B.pre
  have hD := hD0.self (sz := s.heap.size)
  have hl := lv_entry args (n := nL) hlen
  rw [lg_entry_eq]
  have hnm : meth.name = y.name := (name_of_methodNamed B.named B.method).1
  have het : c.exceptionTable.toList = tableOf hh := vx_table (x := y) B (hts _ List.mem_cons_self)
  exact K x hox p l e _ s m args.toArray below meth c D TY (va_A (re TY ws) s.heap.size) s.heap [] 0 0 kc ks _ ⟨B.exec, B.bytes, hml, B.returns, findClass_of_methodNamed B.named, fun w h => hts w (List.mem_cons_of_mem _ h), B.notSynchronized, hnm, het, hlt, trivial, fun q h => Or.inr h⟩ hK hZ (Nat.le_refl _) (Nat.le_refl _) (Nat.le_refl _) (Nat.le_refl _) (by omega) (by omega) hP hD va_S.rf hl
/-- the script: the ints xs of the cell b, which nobody writes -/
def XS (b L : Nat) (xs : Nat → Int32) : aX := fun s A => va_X b L xs s s.heap ∧ b < s.heap.size ∧ ¬ A b
theorem aw_slen {b L : Nat} {xs : Nat → Int32} (dg : decode cc pc = .ok (.arraylength, 1)) (hq : pc + 1 = q) (K : AW own nm cc nL ret hh (XS b L xs) d post kc ks o q lv (.int (Int32.ofNat L) :: st) ws) : AW own nm cc nL ret hh (XS b L xs) d post kc ks o pc lv (.ref b :: st) ws := by
  subst hq
  intro z hz p l e R s m args below meth c D TY A H locs cells slots mc ms ls C hK hZ hd1 hd2 hc1 hc2 hc3 hc4 hP hD hS hl0
  obtain ⟨x1, x2, x3⟩ := C.2.2.2.2.2.2.2.2.2.2.1
  exact va_slen C.1 C.2.1 x1 x2 x3 hS dg (K z hz p l e R s m args below meth c D TY A H locs cells slots mc ms ls C hK hZ hd1 hd2 hc1 hc2 hc3 hc4 hP hD hS hl0)
theorem aw_sld {b L : Nat} {xs : Nat → Int32} {i : Int32} [dec : Decidable (i < 0 ∨ L ≤ i.toNatClampNeg)] (dg : decode cc pc = .ok (.iaload, 1)) (hq : pc + 1 = q) (K : AW own nm cc nL ret hh (XS b L xs) d post kc ks o q lv (.int (xs i.toNatClampNeg) :: st) ws) : AW own nm cc nL ret hh (XS b L xs) d post kc ks (if i < 0 ∨ L ≤ i.toNatClampNeg then none else o) pc lv (.int i :: .ref b :: st) ws := by
  subst hq
  intro z hz p l e R s m args below meth c D TY A H locs cells slots mc ms ls C hK hZ hd1 hd2 hc1 hc2 hc3 hc4 hP hD hS hl0
  obtain ⟨x1, x2, x3⟩ := C.2.2.2.2.2.2.2.2.2.2.1
  by_cases h9 : i < 0 ∨ L ≤ i.toNatClampNeg
  · rw [if_pos h9] at hz; cases hz
  · rw [if_neg h9] at hz
    exact va_sld C.1 C.2.1 x1 x2 x3 hS h9 dg (K z hz p l e R s m args below meth c D TY A H locs cells slots mc ms ls C hK hZ hd1 hd2 hc1 hc2 hc3 hc4 hP hD hS hl0)
end AWL
/-! ===== the states ===== -/
/-- the class's contents: memories (size, worths), ledgers (rule, size, worths), desks, counts, the series, the walker, the spare way -/
abbrev CS : Type := (Nat → Int32 × (Nat → Int32)) × (Nat → Int32 × Int32 × (Nat → Int32)) × (Nat → Nat → Int32) × (Nat → Int32) × (Nat → Int32) × (Nat → Int32) × (Nat → Int32)
/-- the reference's: memories, ledgers, desks, tallies, calls, thrown -/
abbrev MS : Type := (Nat → Nat → Int32) × (Nat → Nat → Int32) × (Nat → Nat → Int32) × (Nat → Int32) × (Nat → Int32) × Int32
def upm {α : Type} (f : Nat → α) (n : Nat) (v : α) : Nat → α := fun i => if i = n then v else f i
def rf3 (r : Nat → Nat) (o s n : Nat) : Nat → Option Nat := fun i => if i < n then some (r (o + s * i)) else none
/-- an index in its range, or 0 -/
def ix (n : Nat) (p : Int32) : Nat := if p < 0 ∨ n ≤ p.toNatClampNeg then 0 else p.toNatClampNeg
theorem ix_in {n : Nat} {p : Int32} (h : ¬ (p < 0 ∨ n ≤ p.toNatClampNeg)) : ix n p = p.toNatClampNeg := if_neg h
theorem ix_lt {n : Nat} {p : Int32} (h : 0 < n) : ix n p < n := by
  unfold ix
  split
  · exact h
  · rename_i h1
    exact Nat.not_le.mp (fun h2 => h1 (Or.inr h2))
/-- two different indices -/
def jx (n : Nat) (p q : Int32) : Nat := if p < 0 ∨ n ≤ p.toNatClampNeg then (if q < 0 ∨ n ≤ q.toNatClampNeg then 2 % n else (q.toNatClampNeg + 1) % n) else p.toNatClampNeg
def kx (n : Nat) (p q : Int32) : Nat := if q < 0 ∨ n ≤ q.toNatClampNeg then (if p < 0 ∨ n ≤ p.toNatClampNeg then 1 % n else (p.toNatClampNeg + 1) % n) else q.toNatClampNeg
theorem jx_in {n : Nat} {p q : Int32} (h : ¬ (p < 0 ∨ n ≤ p.toNatClampNeg)) : jx n p q = p.toNatClampNeg := if_neg h
theorem kx_in {n : Nat} {p q : Int32} (h : ¬ (q < 0 ∨ n ≤ q.toNatClampNeg)) : kx n p q = q.toNatClampNeg := if_neg h
theorem clamp_inj {p q : Int32} (hp : ¬ p < 0) (hq : ¬ q < 0) (h : p.toNatClampNeg = q.toNatClampNeg) : p = q := by
  have h1 : 0 ≤ p.toInt := by have := Int32.not_lt.mp hp; rwa [Int32.le_iff_toInt_le] at this
  have h2 : 0 ≤ q.toInt := by have := Int32.not_lt.mp hq; rwa [Int32.le_iff_toInt_le] at this
  have e1 : p.toNatClampNeg = p.toInt.toNat := rfl
  have e2 : q.toNatClampNeg = q.toInt.toNat := rfl
  rw [e1, e2] at h
  exact Int32.toInt_inj.mp (by omega)
theorem jk3 {p q : Int32} (h : p ≠ q) : (jx 3 p q = 0 ∧ kx 3 p q = 1) ∨ (jx 3 p q = 0 ∧ kx 3 p q = 2) ∨ (jx 3 p q = 1 ∧ kx 3 p q = 0) ∨ (jx 3 p q = 1 ∧ kx 3 p q = 2) ∨ (jx 3 p q = 2 ∧ kx 3 p q = 0) ∨ (jx 3 p q = 2 ∧ kx 3 p q = 1) := by
  have key : jx 3 p q < 3 ∧ kx 3 p q < 3 ∧ jx 3 p q ≠ kx 3 p q := by
    unfold jx kx
    by_cases hp : p < 0 ∨ 3 ≤ p.toNatClampNeg <;> by_cases hq : q < 0 ∨ 3 ≤ q.toNatClampNeg <;> simp only [hp, hq, if_true, if_false, if_pos, if_neg, not_false_eq_true] <;> (try simp only [not_or] at hp hq) <;> (try omega)
    exact ⟨by omega, by omega, fun e => h (clamp_inj hp.1 hq.1 e)⟩
  omega
theorem lt3 {n : Nat} (h : n < 3) : n = 0 ∨ n = 1 ∨ n = 2 := by omega
theorem lt2 {n : Nat} (h : n < 2) : n = 0 ∨ n = 1 := by omega
/-- the other desk -/
theorem ix_other {p : Int32} (h : ¬ ((1 : Int32) - p < 0 ∨ 2 ≤ ((1 : Int32) - p).toNatClampNeg)) : ((1 : Int32) - p).toNatClampNeg = 1 - ix 2 p := by
  simp only [not_or] at h
  obtain ⟨h1, h2⟩ := h
  have e1 : (1 : Int32) - p = 0 ∨ (1 : Int32) - p = 1 := by
    have : ((1 : Int32) - p).toNatClampNeg = 0 ∨ ((1 : Int32) - p).toNatClampNeg = 1 := by omega
    rcases this with h | h
    · exact Or.inl (clamp_inj h1 (by decide) (h.trans (by decide)))
    · exact Or.inr (clamp_inj h1 (by decide) (h.trans (by decide)))
  rcases e1 with e | e
  · have : p = 1 := by
      have h3 := Int32.sub_eq_iff_eq_add.mp e
      rw [Int32.zero_add] at h3
      exact h3.symm
    subst this
    decide
  · have : p = 0 := by
      have h3 := Int32.sub_eq_iff_eq_add.mp e
      exact Int32.add_eq_left.mp h3.symm
    subst this
    decide
def WX (r : Nat → Nat) (S : CS) : aW := [(r 0, .inr (7, [.ref (r 1), .ref (r 8), .ref (r 15), .ref (r 20), .ref (r 21), .ref (r 23), .ref (r 25)])), (r 1, .inl (1, 3, .inr (.inr (.inr (.inr (rf3 r 2 2 3)))))), (r 2, .inr (4, [.ref (r 3), .int (S.1 0).1])), (r 3, .inl (0, 2646, .inl (S.1 0).2)), (r 4, .inr (4, [.ref (r 5), .int (S.1 1).1])), (r 5, .inl (0, 2646, .inl (S.1 1).2)), (r 6, .inr (4, [.ref (r 7), .int (S.1 2).1])), (r 7, .inl (0, 2646, .inl (S.1 2).2)), (r 8, .inl (2, 3, .inr (.inr (.inr (.inr (rf3 r 9 2 3)))))), (r 9, .inr (3, [.int (S.2.1 0).1, .ref (r 10), .int (S.2.1 0).2.1])), (r 10, .inl (0, 21, .inl (S.2.1 0).2.2)), (r 11, .inr (3, [.int (S.2.1 1).1, .ref (r 12), .int (S.2.1 1).2.1])), (r 12, .inl (0, 21, .inl (S.2.1 1).2.2)), (r 13, .inr (3, [.int (S.2.1 2).1, .ref (r 14), .int (S.2.1 2).2.1])), (r 14, .inl (0, 21, .inl (S.2.1 2).2.2)), (r 15, .inl (3, 2, .inr (.inr (.inr (.inr (rf3 r 16 2 2)))))), (r 16, .inr (6, [.ref (r 17)])), (r 17, .inl (0, 21, .inl (S.2.2.1 0))), (r 18, .inr (6, [.ref (r 19)])), (r 19, .inl (0, 21, .inl (S.2.2.1 1))), (r 20, .inr (2, [.int (S.2.2.2.1 0), .int (S.2.2.2.1 1), .int (S.2.2.2.1 2), .int (S.2.2.2.1 3), .int (S.2.2.2.1 4), .int (S.2.2.2.1 5)])), (r 21, .inr (5, [.ref (r 22)])), (r 22, .inl (0, 21, .inl S.2.2.2.2.1)), (r 23, .inr (6, [.ref (r 24)])), (r 24, .inl (0, 21, .inl S.2.2.2.2.2.1)), (r 25, .inr (6, [.ref (r 26)])), (r 26, .inl (0, 21, .inl S.2.2.2.2.2.2))]
def WM (rq : Nat → Nat) (M : MS) : aW := [(rq 0, .inr (9, [.ref (rq 1), .ref (rq 5), .ref (rq 9), .ref (rq 12), .ref (rq 13), .int M.2.2.2.2.2])), (rq 1, .inl (4, 3, .inr (.inr (.inr (.inr (rf3 rq 2 1 3)))))), (rq 2, .inl (0, 6144, .inl (M.1 0))), (rq 3, .inl (0, 6144, .inl (M.1 1))), (rq 4, .inl (0, 6144, .inl (M.1 2))), (rq 5, .inl (4, 3, .inr (.inr (.inr (.inr (rf3 rq 6 1 3)))))), (rq 6, .inl (0, 21, .inl (M.2.1 0))), (rq 7, .inl (0, 21, .inl (M.2.1 1))), (rq 8, .inl (0, 21, .inl (M.2.1 2))), (rq 9, .inl (4, 2, .inr (.inr (.inr (.inr (rf3 rq 10 1 2)))))), (rq 10, .inl (0, 21, .inl (M.2.2.1 0))), (rq 11, .inl (0, 21, .inl (M.2.2.1 1))), (rq 12, .inl (0, 6, .inl M.2.2.2.1)), (rq 13, .inl (0, 441, .inl M.2.2.2.2.1))]
def OC (o : Nat) (nv : Int64) (sv : Value) : Nat × aE := (o, .inr (8, [.long nv, sv]))
def WA (r rq : Nat → Nat) (o : Nat) (S : CS) (M : MS) (nv : Int64) (sv : Value) : aW := WX r S ++ (WM rq M ++ [OC o nv sv])
theorem PX.er {U : Type} {val : U → (Nat → Nat) → Option Value} {wf : U → (Nat → Nat) → aW} {w0 : aW} {E : String} : PX val wf w0 (.inr E) (.inr E) w0 := ⟨rfl, rfl⟩
theorem PX.inl {U : Type} {val : U → (Nat → Nat) → Option Value} {wf : U → (Nat → Nat) → aW} {w0 : aW} {x : U} {o : aO} {w : aW} (h : PX val wf w0 (.inl x) o w) : ∃ g : Nat → Nat, o = .inl (val x g) ∧ w = wf x g := h
theorem PX.inr {U : Type} {val : U → (Nat → Nat) → Option Value} {wf : U → (Nat → Nat) → aW} {w0 : aW} {E : String} {o : aO} {w : aW} (h : PX val wf w0 (.inr E) o w) : o = .inr E ∧ w = w0 := h
theorem rf3_3 {r : Nat → Nat} {a s : Nat} : rf3 r a s 3 = va_up (va_up (va_up (fun _ => none) 0 (some (r (a + s * 0)))) 1 (some (r (a + s * 1)))) 2 (some (r (a + s * 2))) := by
  funext i
  match i with
  | 0 => rfl
  | 1 => rfl
  | 2 => rfl
  | i + 3 => simp [va_up, rf3]
theorem rf3_2 {r : Nat → Nat} {a s : Nat} : rf3 r a s 2 = va_up (va_up (fun _ => none) 0 (some (r (a + s * 0)))) 1 (some (r (a + s * 1))) := by
  funext i
  match i with
  | 0 => rfl
  | 1 => rfl
  | i + 2 => simp [va_up, rf3]

end MG_40law
section MG_40wwords
theorem ml_X6_1 : Cond.methodLink RX6 1 objectInit ∈ TB := TBm_2 95 rfl rfl
theorem ini_14 : Cond.initialized "SumlarderLaw" ∈ TB := TBm_1 0 rfl rfl
theorem ne_14 : ("SumlarderLaw" : String) ≠ "java/lang/invoke/MethodHandle" ∧ ("SumlarderLaw" : String) ≠ "java/lang/invoke/VarHandle" := by decide +kernel
theorem pd_55 : (parseMethodDescriptor "(LSumlarder;IIIILSumlarderLaw$Out;)I").map (fun d => d.parameters.length) = some 6 := by decide +kernel
theorem mix_L_know : MIX yL_know cL_know 7 6 (some .int) [(0, 15, 18, 19), (0, 15, 22, 21)] := ⟨TBm_2 105 rfl rfl, ini_14, ne_14, pd_55, by decide⟩
theorem mi_X5_know : MI yX5_know cX5_know 6 4 (some .int) := ⟨TBm_2 111 rfl rfl, ini_5, ne_5, pd_31, by decide⟩
theorem im_X5_know : Cond.instanceMethod yX5_know ∈ TB := TBm_2 109 rfl rfl
theorem se_X5_know : Cond.selects yX5_know.cls yX5_know yX5_know ∈ TB := TBm_2 110 rfl rfl
theorem ml_L_7 : Cond.methodLink RL 7 yX5_know ∈ TB := TBm_2 108 rfl rfl
theorem cl_L_19 : Cond.classLink RL 19 "java/lang/IndexOutOfBoundsException" ∈ TB := TBm_2 106 rfl rfl
theorem ca_IndexOutOfBoundsException : Cond.castable "java/lang/IndexOutOfBoundsException" "java/lang/IndexOutOfBoundsException" ∈ NGW := NGm_1 154 rfl rfl
theorem cl_L_21 : Cond.classLink RL 21 "java/lang/IllegalArgumentException" ∈ TB := TBm_2 107 rfl rfl
theorem ca_IllegalArgumentException : Cond.castable "java/lang/IllegalArgumentException" "java/lang/IllegalArgumentException" ∈ NGW := NGm_2 7 rfl rfl
theorem uw_X6 : ∀ w ∈ u_ws RX6 TX6 2, w ∈ TB := by
  have h : ∀ w ∈ u_ws RX6 TX6 2, decide (w ∈ tables_1) = true ∧ goodWord w = true := by decide +kernel
  exact fun w hw => TB_in (List.mem_append_right _ (of_decide_eq_true (h w hw).1)) (h w hw).2
theorem fn_L_13 : FGN RL "SumlarderLaw" 13 8 0 .long := ⟨RX6, TX6, 2, tyX6, rfl, by decide, uw_X6, NGm_2 96 rfl rfl, tyX6_ok, nmX6, rfl, rfl⟩
theorem pd_56 : (parseMethodDescriptor "(LSumlarder;IIILSumlarderLaw$Out;)I").map (fun d => d.parameters.length) = some 5 := by decide +kernel
theorem mix_L_few : MIX yL_few cL_few 6 5 (some .int) [(0, 13, 16, 19), (0, 13, 20, 21)] := ⟨TBm_2 146 rfl rfl, ini_14, ne_14, pd_56, by decide⟩
theorem mi_X5_few : MI yX5_few cX5_few 7 3 (some .int) := ⟨TBm_2 150 rfl rfl, ini_5, ne_5, pd_9, by decide⟩
theorem im_X5_few : Cond.instanceMethod yX5_few ∈ TB := TBm_2 148 rfl rfl
theorem se_X5_few : Cond.selects yX5_few.cls yX5_few yX5_few ∈ TB := TBm_2 149 rfl rfl
theorem ml_L_23 : Cond.methodLink RL 23 yX5_few ∈ TB := TBm_2 147 rfl rfl
theorem pd_57 : (parseMethodDescriptor "(LSumlarder;IILSumlarderLaw$Out;)I").map (fun d => d.parameters.length) = some 4 := by decide +kernel
theorem mix_L_surplus : MIX yL_surplus cL_surplus 5 4 (some .int) [(0, 11, 14, 19), (0, 11, 18, 21)] := ⟨TBm_2 153 rfl rfl, ini_14, ne_14, pd_57, by decide⟩
theorem mi_X5_surplus : MI yX5_surplus cX5_surplus 7 2 (some .int) := ⟨TBm_2 157 rfl rfl, ini_5, ne_5, pd_13, by decide⟩
theorem im_X5_surplus : Cond.instanceMethod yX5_surplus ∈ TB := TBm_2 155 rfl rfl
theorem se_X5_surplus : Cond.selects yX5_surplus.cls yX5_surplus yX5_surplus ∈ TB := TBm_2 156 rfl rfl
theorem ml_L_27 : Cond.methodLink RL 27 yX5_surplus ∈ TB := TBm_2 154 rfl rfl
theorem mix_L_place : MIX yL_place cL_place 5 4 (some .int) [(0, 11, 14, 19)] := ⟨TBm_2 160 rfl rfl, ini_14, ne_14, pd_57, by decide⟩
theorem mi_X5_place : MI yX5_place cX5_place 10 2 (some .int) := ⟨TBm_2 164 rfl rfl, ini_5, ne_5, pd_13, by decide⟩
theorem im_X5_place : Cond.instanceMethod yX5_place ∈ TB := TBm_2 162 rfl rfl
theorem se_X5_place : Cond.selects yX5_place.cls yX5_place yX5_place ∈ TB := TBm_2 163 rfl rfl
theorem ml_L_31 : Cond.methodLink RL 31 yX5_place ∈ TB := TBm_2 161 rfl rfl
theorem mix_L_learn : MIX yL_learn cL_learn 7 6 (some .int) [(0, 15, 18, 19), (0, 15, 22, 21)] := ⟨TBm_2 167 rfl rfl, ini_14, ne_14, pd_55, by decide⟩
theorem mi_X5_learn : MI yX5_learn cX5_learn 6 4 (some .int) := ⟨TBm_2 171 rfl rfl, ini_5, ne_5, pd_31, by decide⟩
theorem im_X5_learn : Cond.instanceMethod yX5_learn ∈ TB := TBm_2 169 rfl rfl
theorem se_X5_learn : Cond.selects yX5_learn.cls yX5_learn yX5_learn ∈ TB := TBm_2 170 rfl rfl
theorem ml_L_34 : Cond.methodLink RL 34 yX5_learn ∈ TB := TBm_2 168 rfl rfl
theorem mix_L_relearn : MIX yL_relearn cL_relearn 7 6 (some .int) [(0, 15, 18, 19), (0, 15, 22, 21)] := ⟨TBm_2 209 rfl rfl, ini_14, ne_14, pd_55, by decide⟩
theorem mi_X5_relearn : MI yX5_relearn cX5_relearn 7 4 (some .int) := ⟨TBm_2 213 rfl rfl, ini_5, ne_5, pd_31, by decide⟩
theorem im_X5_relearn : Cond.instanceMethod yX5_relearn ∈ TB := TBm_2 211 rfl rfl
theorem se_X5_relearn : Cond.selects yX5_relearn.cls yX5_relearn yX5_relearn ∈ TB := TBm_2 212 rfl rfl
theorem ml_L_37 : Cond.methodLink RL 37 yX5_relearn ∈ TB := TBm_2 210 rfl rfl
theorem mix_L_forget : MIX yL_forget cL_forget 7 6 (some .int) [(0, 15, 18, 19), (0, 15, 22, 21)] := ⟨TBm_3 28 rfl rfl, ini_14, ne_14, pd_55, by decide⟩
theorem mi_X5_forget : MI yX5_forget cX5_forget 7 4 (some .int) := ⟨TBm_3 32 rfl rfl, ini_5, ne_5, pd_31, by decide⟩
theorem im_X5_forget : Cond.instanceMethod yX5_forget ∈ TB := TBm_3 30 rfl rfl
theorem se_X5_forget : Cond.selects yX5_forget.cls yX5_forget yX5_forget ∈ TB := TBm_3 31 rfl rfl
theorem ml_L_40 : Cond.methodLink RL 40 yX5_forget ∈ TB := TBm_3 29 rfl rfl
theorem pd_58 : (parseMethodDescriptor "(LSumlarder;IIIIILSumlarderLaw$Out;)I").map (fun d => d.parameters.length) = some 7 := by decide +kernel
theorem mix_L_forgetIf : MIX yL_forgetIf cL_forgetIf 8 7 (some .int) [(0, 17, 20, 19), (0, 17, 24, 21)] := ⟨TBm_3 40 rfl rfl, ini_14, ne_14, pd_58, by decide⟩
theorem pd_59 : (parseMethodDescriptor "(IIIII)I").map (fun d => d.parameters.length) = some 5 := by decide +kernel
theorem mi_X5_forgetIf : MI yX5_forgetIf cX5_forgetIf 7 5 (some .int) := ⟨TBm_3 44 rfl rfl, ini_5, ne_5, pd_59, by decide⟩
theorem im_X5_forgetIf : Cond.instanceMethod yX5_forgetIf ∈ TB := TBm_3 42 rfl rfl
theorem se_X5_forgetIf : Cond.selects yX5_forgetIf.cls yX5_forgetIf yX5_forgetIf ∈ TB := TBm_3 43 rfl rfl
theorem ml_L_43 : Cond.methodLink RL 43 yX5_forgetIf ∈ TB := TBm_3 41 rfl rfl
theorem mix_L_forgetAll : MIX yL_forgetAll cL_forgetAll 6 5 (some .int) [(0, 13, 16, 19), (0, 13, 20, 21)] := ⟨TBm_3 52 rfl rfl, ini_14, ne_14, pd_56, by decide⟩
theorem mi_X5_forgetAll : MI yX5_forgetAll cX5_forgetAll 5 3 (some .int) := ⟨TBm_3 56 rfl rfl, ini_5, ne_5, pd_9, by decide⟩
theorem im_X5_forgetAll : Cond.instanceMethod yX5_forgetAll ∈ TB := TBm_3 54 rfl rfl
theorem se_X5_forgetAll : Cond.selects yX5_forgetAll.cls yX5_forgetAll yX5_forgetAll ∈ TB := TBm_3 55 rfl rfl
theorem ml_L_47 : Cond.methodLink RL 47 yX5_forgetAll ∈ TB := TBm_3 53 rfl rfl
theorem pd_60 : (parseMethodDescriptor "(LSumlarder;ILSumlarderLaw$Out;)I").map (fun d => d.parameters.length) = some 3 := by decide +kernel
theorem mix_L_clear : MIX yL_clear cL_clear 4 3 (some .int) [(0, 10, 13, 19)] := ⟨TBm_3 67 rfl rfl, ini_14, ne_14, pd_60, by decide⟩
theorem mi_X5_clear : MI yX5_clear cX5_clear 2 1 (some .int) := ⟨TBm_3 71 rfl rfl, ini_5, ne_5, pd_10, by decide⟩
theorem im_X5_clear : Cond.instanceMethod yX5_clear ∈ TB := TBm_3 69 rfl rfl
theorem se_X5_clear : Cond.selects yX5_clear.cls yX5_clear yX5_clear ∈ TB := TBm_3 70 rfl rfl
theorem ml_L_50 : Cond.methodLink RL 50 yX5_clear ∈ TB := TBm_3 68 rfl rfl
theorem mix_L_copy : MIX yL_copy cL_copy 5 4 (some .int) [(0, 11, 14, 19)] := ⟨TBm_3 78 rfl rfl, ini_14, ne_14, pd_57, by decide⟩
theorem mi_X5_copy : MI yX5_copy cX5_copy 5 2 (some .int) := ⟨TBm_3 82 rfl rfl, ini_5, ne_5, pd_13, by decide⟩
theorem im_X5_copy : Cond.instanceMethod yX5_copy ∈ TB := TBm_3 80 rfl rfl
theorem se_X5_copy : Cond.selects yX5_copy.cls yX5_copy yX5_copy ∈ TB := TBm_3 81 rfl rfl
theorem ml_L_54 : Cond.methodLink RL 54 yX5_copy ∈ TB := TBm_3 79 rfl rfl
theorem mix_L_pour : MIX yL_pour cL_pour 5 4 (some .int) [(0, 11, 14, 19)] := ⟨TBm_3 92 rfl rfl, ini_14, ne_14, pd_57, by decide⟩
theorem mi_X5_pour : MI yX5_pour cX5_pour 5 2 (some .int) := ⟨TBm_3 96 rfl rfl, ini_5, ne_5, pd_13, by decide⟩
theorem im_X5_pour : Cond.instanceMethod yX5_pour ∈ TB := TBm_3 94 rfl rfl
theorem se_X5_pour : Cond.selects yX5_pour.cls yX5_pour yX5_pour ∈ TB := TBm_3 95 rfl rfl
theorem ml_L_57 : Cond.methodLink RL 57 yX5_pour ∈ TB := TBm_3 93 rfl rfl
theorem mix_L_isKept : MIX yL_isKept cL_isKept 8 7 (some .int) [(0, 24, 27, 19), (0, 24, 31, 21)] := ⟨TBm_3 103 rfl rfl, ini_14, ne_14, pd_58, by decide⟩
theorem pd_61 : (parseMethodDescriptor "(IIIII)Z").map (fun d => d.parameters.length) = some 5 := by decide +kernel
theorem mi_X5_isKept : MI yX5_isKept cX5_isKept 7 5 (some .boolean) := ⟨TBm_3 107 rfl rfl, ini_5, ne_5, pd_61, by decide⟩
theorem im_X5_isKept : Cond.instanceMethod yX5_isKept ∈ TB := TBm_3 105 rfl rfl
theorem se_X5_isKept : Cond.selects yX5_isKept.cls yX5_isKept yX5_isKept ∈ TB := TBm_3 106 rfl rfl
theorem ml_L_60 : Cond.methodLink RL 60 yX5_isKept ∈ TB := TBm_3 104 rfl rfl
theorem mix_L_worthOr : MIX yL_worthOr cL_worthOr 8 7 (some .int) [(0, 17, 20, 19), (0, 17, 24, 21)] := ⟨TBm_3 110 rfl rfl, ini_14, ne_14, pd_58, by decide⟩
theorem mi_X5_worthOr : MI yX5_worthOr cX5_worthOr 7 5 (some .int) := ⟨TBm_3 114 rfl rfl, ini_5, ne_5, pd_59, by decide⟩
theorem im_X5_worthOr : Cond.instanceMethod yX5_worthOr ∈ TB := TBm_3 112 rfl rfl
theorem se_X5_worthOr : Cond.selects yX5_worthOr.cls yX5_worthOr yX5_worthOr ∈ TB := TBm_3 113 rfl rfl
theorem ml_L_64 : Cond.methodLink RL 64 yX5_worthOr ∈ TB := TBm_3 111 rfl rfl
theorem mix_L_confirm : MIX yL_confirm cL_confirm 8 7 (some .int) [(0, 24, 27, 19), (0, 24, 31, 21)] := ⟨TBm_3 117 rfl rfl, ini_14, ne_14, pd_58, by decide⟩
theorem mi_X5_confirm : MI yX5_confirm cX5_confirm 7 5 (some .boolean) := ⟨TBm_3 121 rfl rfl, ini_5, ne_5, pd_61, by decide⟩
theorem im_X5_confirm : Cond.instanceMethod yX5_confirm ∈ TB := TBm_3 119 rfl rfl
theorem se_X5_confirm : Cond.selects yX5_confirm.cls yX5_confirm yX5_confirm ∈ TB := TBm_3 120 rfl rfl
theorem ml_L_67 : Cond.methodLink RL 67 yX5_confirm ∈ TB := TBm_3 118 rfl rfl
theorem mix_L_about : MIX yL_about cL_about 5 4 (some .int) [(0, 11, 14, 19), (0, 11, 18, 21)] := ⟨TBm_3 124 rfl rfl, ini_14, ne_14, pd_57, by decide⟩
theorem ml_L_70 : Cond.methodLink RL 70 yX5_about ∈ TB := TBm_3 125 rfl rfl
theorem mix_L_has : MIX yL_has cL_has 5 4 (some .int) [(0, 18, 21, 19)] := ⟨TBm_3 128 rfl rfl, ini_14, ne_14, pd_57, by decide⟩
theorem mi_X5_has : MI yX5_has cX5_has 3 2 (some .boolean) := ⟨TBm_3 132 rfl rfl, ini_5, ne_5, pd_14, by decide⟩
theorem im_X5_has : Cond.instanceMethod yX5_has ∈ TB := TBm_3 130 rfl rfl
theorem se_X5_has : Cond.selects yX5_has.cls yX5_has yX5_has ∈ TB := TBm_3 131 rfl rfl
theorem ml_L_73 : Cond.methodLink RL 73 yX5_has ∈ TB := TBm_3 129 rfl rfl
theorem mix_L_count : MIX yL_count cL_count 6 5 (some .int) [(0, 13, 16, 19), (0, 13, 20, 21)] := ⟨TBm_3 139 rfl rfl, ini_14, ne_14, pd_56, by decide⟩
theorem mi_X5_count : MI yX5_count cX5_count 5 3 (some .int) := ⟨TBm_3 143 rfl rfl, ini_5, ne_5, pd_9, by decide⟩
theorem im_X5_count : Cond.instanceMethod yX5_count ∈ TB := TBm_3 141 rfl rfl
theorem se_X5_count : Cond.selects yX5_count.cls yX5_count yX5_count ∈ TB := TBm_3 142 rfl rfl
theorem ml_L_77 : Cond.methodLink RL 77 yX5_count ∈ TB := TBm_3 140 rfl rfl
theorem mix_L_isSame : MIX yL_isSame cL_isSame 5 4 (some .int) [(0, 18, 21, 19)] := ⟨TBm_3 146 rfl rfl, ini_14, ne_14, pd_57, by decide⟩
theorem mi_X5_isSame : MI yX5_isSame cX5_isSame 5 2 (some .boolean) := ⟨TBm_3 150 rfl rfl, ini_5, ne_5, pd_14, by decide⟩
theorem im_X5_isSame : Cond.instanceMethod yX5_isSame ∈ TB := TBm_3 148 rfl rfl
theorem se_X5_isSame : Cond.selects yX5_isSame.cls yX5_isSame yX5_isSame ∈ TB := TBm_3 149 rfl rfl
theorem ml_L_80 : Cond.methodLink RL 80 yX5_isSame ∈ TB := TBm_3 147 rfl rfl
theorem mix_L_walk : MIX yL_walk cL_walk 6 5 (some .int) [(0, 13, 16, 21)] := ⟨TBm_3 157 rfl rfl, ini_14, ne_14, pd_56, by decide⟩
theorem mi_X5_walk : MI yX5_walk cX5_walk 4 3 (some .int) := ⟨TBm_3 161 rfl rfl, ini_5, ne_5, pd_9, by decide⟩
theorem im_X5_walk : Cond.instanceMethod yX5_walk ∈ TB := TBm_3 159 rfl rfl
theorem se_X5_walk : Cond.selects yX5_walk.cls yX5_walk yX5_walk ∈ TB := TBm_3 160 rfl rfl
theorem ml_L_83 : Cond.methodLink RL 83 yX5_walk ∈ TB := TBm_3 158 rfl rfl
theorem mix_L_product : MIX yL_product cL_product 6 5 (some .int) [(0, 13, 16, 21)] := ⟨TBm_3 167 rfl rfl, ini_14, ne_14, pd_56, by decide⟩
theorem mi_X5_product : MI yX5_product cX5_product 4 3 (some .int) := ⟨TBm_3 171 rfl rfl, ini_5, ne_5, pd_9, by decide⟩
theorem im_X5_product : Cond.instanceMethod yX5_product ∈ TB := TBm_3 169 rfl rfl
theorem se_X5_product : Cond.selects yX5_product.cls yX5_product yX5_product ∈ TB := TBm_3 170 rfl rfl
theorem ml_L_86 : Cond.methodLink RL 86 yX5_product ∈ TB := TBm_3 168 rfl rfl
theorem mix_L_rule : MIX yL_rule cL_rule 5 4 (some .int) [(0, 11, 14, 19), (0, 11, 18, 21)] := ⟨TBm_3 174 rfl rfl, ini_14, ne_14, pd_57, by decide⟩
theorem mi_X5_rule : MI yX5_rule cX5_rule 4 2 (some .int) := ⟨TBm_3 178 rfl rfl, ini_5, ne_5, pd_13, by decide⟩
theorem im_X5_rule : Cond.instanceMethod yX5_rule ∈ TB := TBm_3 176 rfl rfl
theorem se_X5_rule : Cond.selects yX5_rule.cls yX5_rule yX5_rule ∈ TB := TBm_3 177 rfl rfl
theorem ml_L_89 : Cond.methodLink RL 89 yX5_rule ∈ TB := TBm_3 175 rfl rfl
theorem mix_L_forgetRule : MIX yL_forgetRule cL_forgetRule 5 4 (some .int) [(0, 11, 14, 19), (0, 11, 18, 21)] := ⟨TBm_3 201 rfl rfl, ini_14, ne_14, pd_57, by decide⟩
theorem mi_X5_forgetRule : MI yX5_forgetRule cX5_forgetRule 5 2 (some .int) := ⟨TBm_3 205 rfl rfl, ini_5, ne_5, pd_13, by decide⟩
theorem im_X5_forgetRule : Cond.instanceMethod yX5_forgetRule ∈ TB := TBm_3 203 rfl rfl
theorem se_X5_forgetRule : Cond.selects yX5_forgetRule.cls yX5_forgetRule yX5_forgetRule ∈ TB := TBm_3 204 rfl rfl
theorem ml_L_92 : Cond.methodLink RL 92 yX5_forgetRule ∈ TB := TBm_3 202 rfl rfl
theorem mix_L_ledger : MIX yL_ledger cL_ledger 5 4 (some .int) [(0, 11, 14, 19), (0, 11, 18, 21)] := ⟨TBm_3 225 rfl rfl, ini_14, ne_14, pd_57, by decide⟩
theorem ml_L_95 : Cond.methodLink RL 95 yX5_ledger ∈ TB := TBm_3 226 rfl rfl
theorem mix_L_ruleWorth : MIX yL_ruleWorth cL_ruleWorth 6 5 (some .int) [(0, 13, 16, 19), (0, 13, 20, 21)] := ⟨TBm_3 229 rfl rfl, ini_14, ne_14, pd_56, by decide⟩
theorem mi_X5_ruleWorth : MI yX5_ruleWorth cX5_ruleWorth 5 3 (some .int) := ⟨TBm_3 233 rfl rfl, ini_5, ne_5, pd_9, by decide⟩
theorem im_X5_ruleWorth : Cond.instanceMethod yX5_ruleWorth ∈ TB := TBm_3 231 rfl rfl
theorem se_X5_ruleWorth : Cond.selects yX5_ruleWorth.cls yX5_ruleWorth yX5_ruleWorth ∈ TB := TBm_3 232 rfl rfl
theorem ml_L_98 : Cond.methodLink RL 98 yX5_ruleWorth ∈ TB := TBm_3 230 rfl rfl
theorem mix_L_addPart : MIX yL_addPart cL_addPart 6 5 (some .int) [(0, 13, 16, 19), (0, 13, 20, 21)] := ⟨TBm_3 236 rfl rfl, ini_14, ne_14, pd_56, by decide⟩
theorem mi_X5_addPart : MI yX5_addPart cX5_addPart 5 3 (some .int) := ⟨TBm_4 0 rfl rfl, ini_5, ne_5, pd_9, by decide⟩
theorem im_X5_addPart : Cond.instanceMethod yX5_addPart ∈ TB := TBm_3 238 rfl rfl
theorem se_X5_addPart : Cond.selects yX5_addPart.cls yX5_addPart yX5_addPart ∈ TB := TBm_3 239 rfl rfl
theorem ml_L_101 : Cond.methodLink RL 101 yX5_addPart ∈ TB := TBm_3 237 rfl rfl
theorem mix_L_takePart : MIX yL_takePart cL_takePart 5 4 (some .int) [(0, 11, 14, 19), (0, 11, 18, 21)] := ⟨TBm_4 4 rfl rfl, ini_14, ne_14, pd_57, by decide⟩
theorem mi_X5_takePart : MI yX5_takePart cX5_takePart 4 2 (some .int) := ⟨TBm_4 8 rfl rfl, ini_5, ne_5, pd_13, by decide⟩
theorem im_X5_takePart : Cond.instanceMethod yX5_takePart ∈ TB := TBm_4 6 rfl rfl
theorem se_X5_takePart : Cond.selects yX5_takePart.cls yX5_takePart yX5_takePart ∈ TB := TBm_4 7 rfl rfl
theorem ml_L_104 : Cond.methodLink RL 104 yX5_takePart ∈ TB := TBm_4 5 rfl rfl
theorem mix_L_layFirst : MIX yL_layFirst cL_layFirst 5 4 (some .int) [(0, 11, 14, 19), (0, 11, 18, 21)] := ⟨TBm_4 11 rfl rfl, ini_14, ne_14, pd_57, by decide⟩
theorem mi_X5_layFirst : MI yX5_layFirst cX5_layFirst 4 2 (some .int) := ⟨TBm_4 15 rfl rfl, ini_5, ne_5, pd_13, by decide⟩
theorem im_X5_layFirst : Cond.instanceMethod yX5_layFirst ∈ TB := TBm_4 13 rfl rfl
theorem se_X5_layFirst : Cond.selects yX5_layFirst.cls yX5_layFirst yX5_layFirst ∈ TB := TBm_4 14 rfl rfl
theorem ml_L_107 : Cond.methodLink RL 107 yX5_layFirst ∈ TB := TBm_4 12 rfl rfl
theorem mix_L_next : MIX yL_next cL_next 4 3 (some .int) [(0, 10, 13, 19)] := ⟨TBm_4 18 rfl rfl, ini_14, ne_14, pd_60, by decide⟩
theorem mi_X5_next : MI yX5_next cX5_next 3 1 (some .int) := ⟨TBm_4 22 rfl rfl, ini_5, ne_5, pd_10, by decide⟩
theorem im_X5_next : Cond.instanceMethod yX5_next ∈ TB := TBm_4 20 rfl rfl
theorem se_X5_next : Cond.selects yX5_next.cls yX5_next yX5_next ∈ TB := TBm_4 21 rfl rfl
theorem ml_L_110 : Cond.methodLink RL 110 yX5_next ∈ TB := TBm_4 19 rfl rfl
theorem mix_L_turn : MIX yL_turn cL_turn 4 3 (some .int) [(0, 10, 13, 19)] := ⟨TBm_4 25 rfl rfl, ini_14, ne_14, pd_60, by decide⟩
theorem mi_X5_turn : MI yX5_turn cX5_turn 4 1 (some .int) := ⟨TBm_4 29 rfl rfl, ini_5, ne_5, pd_10, by decide⟩
theorem im_X5_turn : Cond.instanceMethod yX5_turn ∈ TB := TBm_4 27 rfl rfl
theorem se_X5_turn : Cond.selects yX5_turn.cls yX5_turn yX5_turn ∈ TB := TBm_4 28 rfl rfl
theorem ml_L_113 : Cond.methodLink RL 113 yX5_turn ∈ TB := TBm_4 26 rfl rfl
theorem mix_L_toUnlike : MIX yL_toUnlike cL_toUnlike 4 3 (some .int) [(0, 10, 13, 19)] := ⟨TBm_4 38 rfl rfl, ini_14, ne_14, pd_60, by decide⟩
theorem mi_X5_toUnlike : MI yX5_toUnlike cX5_toUnlike 3 1 (some .int) := ⟨TBm_4 42 rfl rfl, ini_5, ne_5, pd_10, by decide⟩
theorem im_X5_toUnlike : Cond.instanceMethod yX5_toUnlike ∈ TB := TBm_4 40 rfl rfl
theorem se_X5_toUnlike : Cond.selects yX5_toUnlike.cls yX5_toUnlike yX5_toUnlike ∈ TB := TBm_4 41 rfl rfl
theorem ml_L_116 : Cond.methodLink RL 116 yX5_toUnlike ∈ TB := TBm_4 39 rfl rfl
theorem mix_L_toOdd : MIX yL_toOdd cL_toOdd 4 3 (some .int) [(0, 10, 13, 19)] := ⟨TBm_4 50 rfl rfl, ini_14, ne_14, pd_60, by decide⟩
theorem mi_X5_toOdd : MI yX5_toOdd cX5_toOdd 3 1 (some .int) := ⟨TBm_4 54 rfl rfl, ini_5, ne_5, pd_10, by decide⟩
theorem im_X5_toOdd : Cond.instanceMethod yX5_toOdd ∈ TB := TBm_4 52 rfl rfl
theorem se_X5_toOdd : Cond.selects yX5_toOdd.cls yX5_toOdd yX5_toOdd ∈ TB := TBm_4 53 rfl rfl
theorem ml_L_119 : Cond.methodLink RL 119 yX5_toOdd ∈ TB := TBm_4 51 rfl rfl
theorem mix_L_copyDesk : MIX yL_copyDesk cL_copyDesk 4 3 (some .int) [(0, 10, 13, 19)] := ⟨TBm_4 62 rfl rfl, ini_14, ne_14, pd_60, by decide⟩
theorem mi_X5_copyDesk : MI yX5_copyDesk cX5_copyDesk 3 1 (some .int) := ⟨TBm_4 66 rfl rfl, ini_5, ne_5, pd_10, by decide⟩
theorem im_X5_copyDesk : Cond.instanceMethod yX5_copyDesk ∈ TB := TBm_4 64 rfl rfl
theorem se_X5_copyDesk : Cond.selects yX5_copyDesk.cls yX5_copyDesk yX5_copyDesk ∈ TB := TBm_4 65 rfl rfl
theorem ml_L_122 : Cond.methodLink RL 122 yX5_copyDesk ∈ TB := TBm_4 63 rfl rfl
theorem mix_L_times : MIX yL_times cL_times 5 4 (some .int) [(0, 11, 14, 19), (0, 11, 18, 21)] := ⟨TBm_4 69 rfl rfl, ini_14, ne_14, pd_57, by decide⟩
theorem ml_L_125 : Cond.methodLink RL 125 yX5_times ∈ TB := TBm_4 70 rfl rfl
theorem mix_L_way : MIX yL_way cL_way 5 4 (some .int) [(0, 11, 14, 19), (0, 11, 18, 21)] := ⟨TBm_4 73 rfl rfl, ini_14, ne_14, pd_57, by decide⟩
theorem ml_L_128 : Cond.methodLink RL 128 yX5_way ∈ TB := TBm_4 74 rfl rfl
theorem mix_L_wayText : MIX yL_wayText cL_wayText 4 3 (some .int) [(0, 9, 12, 19)] := ⟨TBm_4 77 rfl rfl, ini_14, ne_14, pd_60, by decide⟩
theorem pd_62 : (parseMethodDescriptor "(I)Ljava/lang/String;").map (fun d => d.parameters.length) = some 1 := by decide +kernel
theorem mi_X5_wayText : MI yX5_wayText cX5_wayText 2 1 (some (.object "java/lang/String")) := ⟨TBm_4 81 rfl rfl, ini_5, ne_5, pd_62, by decide⟩
theorem im_X5_wayText : Cond.instanceMethod yX5_wayText ∈ TB := TBm_4 79 rfl rfl
theorem se_X5_wayText : Cond.selects yX5_wayText.cls yX5_wayText yX5_wayText ∈ TB := TBm_4 80 rfl rfl
theorem ml_L_131 : Cond.methodLink RL 131 yX5_wayText ∈ TB := TBm_4 78 rfl rfl
theorem fn_L_135 : FGN RL "SumlarderLaw" 135 8 1 (.object "java/lang/String") := ⟨RX6, TX6, 2, tyX6, rfl, by decide, uw_X6, NGm_2 97 rfl rfl, tyX6_ok, nmX6, rfl, rfl⟩
theorem mix_L_isOf : MIX yL_isOf cL_isOf 6 5 (some .int) [(0, 20, 23, 19), (0, 20, 27, 21)] := ⟨TBm_5 111 rfl rfl, ini_14, ne_14, pd_56, by decide⟩
theorem mi_X5_isOf : MI yX5_isOf cX5_isOf 5 3 (some .boolean) := ⟨TBm_5 115 rfl rfl, ini_5, ne_5, pd_12, by decide⟩
theorem im_X5_isOf : Cond.instanceMethod yX5_isOf ∈ TB := TBm_5 113 rfl rfl
theorem se_X5_isOf : Cond.selects yX5_isOf.cls yX5_isOf yX5_isOf ∈ TB := TBm_5 114 rfl rfl
theorem ml_L_139 : Cond.methodLink RL 139 yX5_isOf ∈ TB := TBm_5 112 rfl rfl
theorem mix_L_tally : MIX yL_tally cL_tally 4 3 (some .int) [(0, 10, 13, 21)] := ⟨TBm_5 118 rfl rfl, ini_14, ne_14, pd_60, by decide⟩
theorem ml_L_143 : Cond.methodLink RL 143 yX5_tally ∈ TB := TBm_5 119 rfl rfl
theorem mix_L_isSound : MIX yL_isSound cL_isSound 4 3 (some .int) [(0, 17, 20, 19)] := ⟨TBm_5 122 rfl rfl, ini_14, ne_14, pd_60, by decide⟩
theorem mi_X5_isSound : MI yX5_isSound cX5_isSound 3 1 (some .boolean) := ⟨TBm_5 126 rfl rfl, ini_5, ne_5, pd_5, by decide⟩
theorem im_X5_isSound : Cond.instanceMethod yX5_isSound ∈ TB := TBm_5 124 rfl rfl
theorem se_X5_isSound : Cond.selects yX5_isSound.cls yX5_isSound yX5_isSound ∈ TB := TBm_5 125 rfl rfl
theorem ml_L_146 : Cond.methodLink RL 146 yX5_isSound ∈ TB := TBm_5 123 rfl rfl
theorem st_L_know : Cond.static yL_know ∈ TB := TBm_2 104 rfl rfl
theorem ml_L_155 : Cond.methodLink RL 155 yL_know ∈ TB := TBm_2 103 rfl rfl
theorem mi_X7_know : MI yX7_know cX7_know 5 4 (some .int) := ⟨TBm_5 175 rfl rfl, ini_7, ne_7, pd_31, by decide⟩
theorem im_X7_know : Cond.instanceMethod yX7_know ∈ TB := TBm_5 173 rfl rfl
theorem se_X7_know : Cond.selects yX7_know.cls yX7_know yX7_know ∈ TB := TBm_5 174 rfl rfl
theorem ml_L_160 : Cond.methodLink RL 160 yX7_know ∈ TB := TBm_5 172 rfl rfl
theorem st_L_few : Cond.static yL_few ∈ TB := TBm_2 145 rfl rfl
theorem ml_L_161 : Cond.methodLink RL 161 yL_few ∈ TB := TBm_2 144 rfl rfl
theorem mi_X7_few : MI yX7_few cX7_few 6 3 (some .int) := ⟨TBm_5 223 rfl rfl, ini_7, ne_7, pd_9, by decide⟩
theorem im_X7_few : Cond.instanceMethod yX7_few ∈ TB := TBm_5 221 rfl rfl
theorem se_X7_few : Cond.selects yX7_few.cls yX7_few yX7_few ∈ TB := TBm_5 222 rfl rfl
theorem ml_L_164 : Cond.methodLink RL 164 yX7_few ∈ TB := TBm_5 220 rfl rfl
theorem st_L_surplus : Cond.static yL_surplus ∈ TB := TBm_2 152 rfl rfl
theorem ml_L_165 : Cond.methodLink RL 165 yL_surplus ∈ TB := TBm_2 151 rfl rfl
theorem mi_X7_surplus : MI yX7_surplus cX7_surplus 5 2 (some .int) := ⟨TBm_5 227 rfl rfl, ini_7, ne_7, pd_13, by decide⟩
theorem im_X7_surplus : Cond.instanceMethod yX7_surplus ∈ TB := TBm_5 225 rfl rfl
theorem se_X7_surplus : Cond.selects yX7_surplus.cls yX7_surplus yX7_surplus ∈ TB := TBm_5 226 rfl rfl
theorem ml_L_168 : Cond.methodLink RL 168 yX7_surplus ∈ TB := TBm_5 224 rfl rfl
theorem st_L_place : Cond.static yL_place ∈ TB := TBm_2 159 rfl rfl
theorem ml_L_169 : Cond.methodLink RL 169 yL_place ∈ TB := TBm_2 158 rfl rfl
theorem mi_X7_place : MI yX7_place cX7_place 8 2 (some .int) := ⟨TBm_5 231 rfl rfl, ini_7, ne_7, pd_13, by decide⟩
theorem im_X7_place : Cond.instanceMethod yX7_place ∈ TB := TBm_5 229 rfl rfl
theorem se_X7_place : Cond.selects yX7_place.cls yX7_place yX7_place ∈ TB := TBm_5 230 rfl rfl
theorem ml_L_171 : Cond.methodLink RL 171 yX7_place ∈ TB := TBm_5 228 rfl rfl
theorem st_L_learn : Cond.static yL_learn ∈ TB := TBm_2 166 rfl rfl
theorem ml_L_172 : Cond.methodLink RL 172 yL_learn ∈ TB := TBm_2 165 rfl rfl
theorem mi_X7_learn : MI yX7_learn cX7_learn 6 4 (some .int) := ⟨TBm_5 238 rfl rfl, ini_7, ne_7, pd_31, by decide⟩
theorem im_X7_learn : Cond.instanceMethod yX7_learn ∈ TB := TBm_5 236 rfl rfl
theorem se_X7_learn : Cond.selects yX7_learn.cls yX7_learn yX7_learn ∈ TB := TBm_5 237 rfl rfl
theorem ml_L_174 : Cond.methodLink RL 174 yX7_learn ∈ TB := TBm_5 235 rfl rfl
theorem st_L_relearn : Cond.static yL_relearn ∈ TB := TBm_2 208 rfl rfl
theorem ml_L_175 : Cond.methodLink RL 175 yL_relearn ∈ TB := TBm_2 207 rfl rfl
theorem mi_X7_relearn : MI yX7_relearn cX7_relearn 5 4 (some .int) := ⟨TBm_6 15 rfl rfl, ini_7, ne_7, pd_31, by decide⟩
theorem im_X7_relearn : Cond.instanceMethod yX7_relearn ∈ TB := TBm_6 13 rfl rfl
theorem se_X7_relearn : Cond.selects yX7_relearn.cls yX7_relearn yX7_relearn ∈ TB := TBm_6 14 rfl rfl
theorem ml_L_177 : Cond.methodLink RL 177 yX7_relearn ∈ TB := TBm_6 12 rfl rfl
theorem st_L_forget : Cond.static yL_forget ∈ TB := TBm_3 27 rfl rfl
theorem ml_L_178 : Cond.methodLink RL 178 yL_forget ∈ TB := TBm_3 26 rfl rfl
theorem mi_X7_forget : MI yX7_forget cX7_forget 6 4 (some .int) := ⟨TBm_6 56 rfl rfl, ini_7, ne_7, pd_31, by decide⟩
theorem im_X7_forget : Cond.instanceMethod yX7_forget ∈ TB := TBm_6 54 rfl rfl
theorem se_X7_forget : Cond.selects yX7_forget.cls yX7_forget yX7_forget ∈ TB := TBm_6 55 rfl rfl
theorem ml_L_180 : Cond.methodLink RL 180 yX7_forget ∈ TB := TBm_6 53 rfl rfl
theorem st_L_forgetIf : Cond.static yL_forgetIf ∈ TB := TBm_3 39 rfl rfl
theorem ml_L_181 : Cond.methodLink RL 181 yL_forgetIf ∈ TB := TBm_3 38 rfl rfl
theorem mi_X7_forgetIf : MI yX7_forgetIf cX7_forgetIf 8 5 (some .int) := ⟨TBm_6 60 rfl rfl, ini_7, ne_7, pd_59, by decide⟩
theorem im_X7_forgetIf : Cond.instanceMethod yX7_forgetIf ∈ TB := TBm_6 58 rfl rfl
theorem se_X7_forgetIf : Cond.selects yX7_forgetIf.cls yX7_forgetIf yX7_forgetIf ∈ TB := TBm_6 59 rfl rfl
theorem ml_L_184 : Cond.methodLink RL 184 yX7_forgetIf ∈ TB := TBm_6 57 rfl rfl
theorem st_L_forgetAll : Cond.static yL_forgetAll ∈ TB := TBm_3 51 rfl rfl
theorem ml_L_185 : Cond.methodLink RL 185 yL_forgetAll ∈ TB := TBm_3 50 rfl rfl
theorem mi_X7_forgetAll : MI yX7_forgetAll cX7_forgetAll 6 3 (some .int) := ⟨TBm_6 64 rfl rfl, ini_7, ne_7, pd_9, by decide⟩
theorem im_X7_forgetAll : Cond.instanceMethod yX7_forgetAll ∈ TB := TBm_6 62 rfl rfl
theorem se_X7_forgetAll : Cond.selects yX7_forgetAll.cls yX7_forgetAll yX7_forgetAll ∈ TB := TBm_6 63 rfl rfl
theorem ml_L_187 : Cond.methodLink RL 187 yX7_forgetAll ∈ TB := TBm_6 61 rfl rfl
theorem st_L_clear : Cond.static yL_clear ∈ TB := TBm_3 66 rfl rfl
theorem ml_L_188 : Cond.methodLink RL 188 yL_clear ∈ TB := TBm_3 65 rfl rfl
theorem mi_X7_clear : MI yX7_clear cX7_clear 4 1 (some .int) := ⟨TBm_6 85 rfl rfl, ini_7, ne_7, pd_10, by decide⟩
theorem im_X7_clear : Cond.instanceMethod yX7_clear ∈ TB := TBm_6 83 rfl rfl
theorem se_X7_clear : Cond.selects yX7_clear.cls yX7_clear yX7_clear ∈ TB := TBm_6 84 rfl rfl
theorem ml_L_191 : Cond.methodLink RL 191 yX7_clear ∈ TB := TBm_6 82 rfl rfl
theorem st_L_copy : Cond.static yL_copy ∈ TB := TBm_3 77 rfl rfl
theorem ml_L_192 : Cond.methodLink RL 192 yL_copy ∈ TB := TBm_3 76 rfl rfl
theorem mi_X7_copy : MI yX7_copy cX7_copy 4 2 (some .int) := ⟨TBm_6 93 rfl rfl, ini_7, ne_7, pd_13, by decide⟩
theorem im_X7_copy : Cond.instanceMethod yX7_copy ∈ TB := TBm_6 91 rfl rfl
theorem se_X7_copy : Cond.selects yX7_copy.cls yX7_copy yX7_copy ∈ TB := TBm_6 92 rfl rfl
theorem ml_L_194 : Cond.methodLink RL 194 yX7_copy ∈ TB := TBm_6 90 rfl rfl
theorem st_L_pour : Cond.static yL_pour ∈ TB := TBm_3 91 rfl rfl
theorem ml_L_195 : Cond.methodLink RL 195 yL_pour ∈ TB := TBm_3 90 rfl rfl
theorem mi_X7_pour : MI yX7_pour cX7_pour 5 2 (some .int) := ⟨TBm_6 97 rfl rfl, ini_7, ne_7, pd_13, by decide⟩
theorem im_X7_pour : Cond.instanceMethod yX7_pour ∈ TB := TBm_6 95 rfl rfl
theorem se_X7_pour : Cond.selects yX7_pour.cls yX7_pour yX7_pour ∈ TB := TBm_6 96 rfl rfl
theorem ml_L_197 : Cond.methodLink RL 197 yX7_pour ∈ TB := TBm_6 94 rfl rfl
theorem st_L_isKept : Cond.static yL_isKept ∈ TB := TBm_3 102 rfl rfl
theorem ml_L_198 : Cond.methodLink RL 198 yL_isKept ∈ TB := TBm_3 101 rfl rfl
theorem mi_X7_isKept : MI yX7_isKept cX7_isKept 6 5 (some .boolean) := ⟨TBm_6 101 rfl rfl, ini_7, ne_7, pd_61, by decide⟩
theorem im_X7_isKept : Cond.instanceMethod yX7_isKept ∈ TB := TBm_6 99 rfl rfl
theorem se_X7_isKept : Cond.selects yX7_isKept.cls yX7_isKept yX7_isKept ∈ TB := TBm_6 100 rfl rfl
theorem ml_L_200 : Cond.methodLink RL 200 yX7_isKept ∈ TB := TBm_6 98 rfl rfl
theorem st_L_worthOr : Cond.static yL_worthOr ∈ TB := TBm_3 109 rfl rfl
theorem ml_L_201 : Cond.methodLink RL 201 yL_worthOr ∈ TB := TBm_3 108 rfl rfl
theorem mi_X7_worthOr : MI yX7_worthOr cX7_worthOr 7 5 (some .int) := ⟨TBm_6 105 rfl rfl, ini_7, ne_7, pd_59, by decide⟩
theorem im_X7_worthOr : Cond.instanceMethod yX7_worthOr ∈ TB := TBm_6 103 rfl rfl
theorem se_X7_worthOr : Cond.selects yX7_worthOr.cls yX7_worthOr yX7_worthOr ∈ TB := TBm_6 104 rfl rfl
theorem ml_L_203 : Cond.methodLink RL 203 yX7_worthOr ∈ TB := TBm_6 102 rfl rfl
theorem st_L_confirm : Cond.static yL_confirm ∈ TB := TBm_3 116 rfl rfl
theorem ml_L_204 : Cond.methodLink RL 204 yL_confirm ∈ TB := TBm_3 115 rfl rfl
theorem mi_X7_confirm : MI yX7_confirm cX7_confirm 7 5 (some .boolean) := ⟨TBm_6 109 rfl rfl, ini_7, ne_7, pd_61, by decide⟩
theorem im_X7_confirm : Cond.instanceMethod yX7_confirm ∈ TB := TBm_6 107 rfl rfl
theorem se_X7_confirm : Cond.selects yX7_confirm.cls yX7_confirm yX7_confirm ∈ TB := TBm_6 108 rfl rfl
theorem ml_L_206 : Cond.methodLink RL 206 yX7_confirm ∈ TB := TBm_6 106 rfl rfl
theorem st_L_about : Cond.static yL_about ∈ TB := TBm_3 123 rfl rfl
theorem ml_L_207 : Cond.methodLink RL 207 yL_about ∈ TB := TBm_3 122 rfl rfl
theorem mi_X7_about : MI yX7_about cX7_about 3 2 (some .int) := ⟨TBm_6 113 rfl rfl, ini_7, ne_7, pd_13, by decide⟩
theorem im_X7_about : Cond.instanceMethod yX7_about ∈ TB := TBm_6 111 rfl rfl
theorem se_X7_about : Cond.selects yX7_about.cls yX7_about yX7_about ∈ TB := TBm_6 112 rfl rfl
theorem ml_L_209 : Cond.methodLink RL 209 yX7_about ∈ TB := TBm_6 110 rfl rfl
theorem st_L_has : Cond.static yL_has ∈ TB := TBm_3 127 rfl rfl
theorem ml_L_210 : Cond.methodLink RL 210 yL_has ∈ TB := TBm_3 126 rfl rfl
theorem mi_X7_has : MI yX7_has cX7_has 3 2 (some .boolean) := ⟨TBm_6 117 rfl rfl, ini_7, ne_7, pd_14, by decide⟩
theorem im_X7_has : Cond.instanceMethod yX7_has ∈ TB := TBm_6 115 rfl rfl
theorem se_X7_has : Cond.selects yX7_has.cls yX7_has yX7_has ∈ TB := TBm_6 116 rfl rfl
theorem ml_L_212 : Cond.methodLink RL 212 yX7_has ∈ TB := TBm_6 114 rfl rfl
theorem st_L_count : Cond.static yL_count ∈ TB := TBm_3 138 rfl rfl
theorem ml_L_213 : Cond.methodLink RL 213 yL_count ∈ TB := TBm_3 137 rfl rfl
theorem mi_X7_count : MI yX7_count cX7_count 4 3 (some .int) := ⟨TBm_6 121 rfl rfl, ini_7, ne_7, pd_9, by decide⟩
theorem im_X7_count : Cond.instanceMethod yX7_count ∈ TB := TBm_6 119 rfl rfl
theorem se_X7_count : Cond.selects yX7_count.cls yX7_count yX7_count ∈ TB := TBm_6 120 rfl rfl
theorem ml_L_215 : Cond.methodLink RL 215 yX7_count ∈ TB := TBm_6 118 rfl rfl
theorem st_L_isSame : Cond.static yL_isSame ∈ TB := TBm_3 145 rfl rfl
theorem ml_L_216 : Cond.methodLink RL 216 yL_isSame ∈ TB := TBm_3 144 rfl rfl
theorem mi_X7_isSame : MI yX7_isSame cX7_isSame 5 2 (some .boolean) := ⟨TBm_6 125 rfl rfl, ini_7, ne_7, pd_14, by decide⟩
theorem im_X7_isSame : Cond.instanceMethod yX7_isSame ∈ TB := TBm_6 123 rfl rfl
theorem se_X7_isSame : Cond.selects yX7_isSame.cls yX7_isSame yX7_isSame ∈ TB := TBm_6 124 rfl rfl
theorem ml_L_218 : Cond.methodLink RL 218 yX7_isSame ∈ TB := TBm_6 122 rfl rfl
theorem st_L_walk : Cond.static yL_walk ∈ TB := TBm_3 156 rfl rfl
theorem ml_L_219 : Cond.methodLink RL 219 yL_walk ∈ TB := TBm_3 155 rfl rfl
theorem mi_X7_walk : MI yX7_walk cX7_walk 4 3 (some .int) := ⟨TBm_6 129 rfl rfl, ini_7, ne_7, pd_9, by decide⟩
theorem im_X7_walk : Cond.instanceMethod yX7_walk ∈ TB := TBm_6 127 rfl rfl
theorem se_X7_walk : Cond.selects yX7_walk.cls yX7_walk yX7_walk ∈ TB := TBm_6 128 rfl rfl
theorem ml_L_221 : Cond.methodLink RL 221 yX7_walk ∈ TB := TBm_6 126 rfl rfl
theorem st_L_product : Cond.static yL_product ∈ TB := TBm_3 166 rfl rfl
theorem ml_L_222 : Cond.methodLink RL 222 yL_product ∈ TB := TBm_3 165 rfl rfl
theorem mi_X7_product : MI yX7_product cX7_product 4 3 (some .int) := ⟨TBm_6 133 rfl rfl, ini_7, ne_7, pd_9, by decide⟩
theorem im_X7_product : Cond.instanceMethod yX7_product ∈ TB := TBm_6 131 rfl rfl
theorem se_X7_product : Cond.selects yX7_product.cls yX7_product yX7_product ∈ TB := TBm_6 132 rfl rfl
theorem ml_L_224 : Cond.methodLink RL 224 yX7_product ∈ TB := TBm_6 130 rfl rfl
theorem st_L_rule : Cond.static yL_rule ∈ TB := TBm_3 173 rfl rfl
theorem ml_L_225 : Cond.methodLink RL 225 yL_rule ∈ TB := TBm_3 172 rfl rfl
theorem mi_X7_rule : MI yX7_rule cX7_rule 6 2 (some .int) := ⟨TBm_6 137 rfl rfl, ini_7, ne_7, pd_13, by decide⟩
theorem im_X7_rule : Cond.instanceMethod yX7_rule ∈ TB := TBm_6 135 rfl rfl
theorem se_X7_rule : Cond.selects yX7_rule.cls yX7_rule yX7_rule ∈ TB := TBm_6 136 rfl rfl
theorem ml_L_227 : Cond.methodLink RL 227 yX7_rule ∈ TB := TBm_6 134 rfl rfl
theorem st_L_forgetRule : Cond.static yL_forgetRule ∈ TB := TBm_3 200 rfl rfl
theorem ml_L_228 : Cond.methodLink RL 228 yL_forgetRule ∈ TB := TBm_3 199 rfl rfl
theorem mi_X7_forgetRule : MI yX7_forgetRule cX7_forgetRule 5 2 (some .int) := ⟨TBm_6 148 rfl rfl, ini_7, ne_7, pd_13, by decide⟩
theorem im_X7_forgetRule : Cond.instanceMethod yX7_forgetRule ∈ TB := TBm_6 146 rfl rfl
theorem se_X7_forgetRule : Cond.selects yX7_forgetRule.cls yX7_forgetRule yX7_forgetRule ∈ TB := TBm_6 147 rfl rfl
theorem ml_L_230 : Cond.methodLink RL 230 yX7_forgetRule ∈ TB := TBm_6 145 rfl rfl
theorem st_L_ledger : Cond.static yL_ledger ∈ TB := TBm_3 224 rfl rfl
theorem ml_L_231 : Cond.methodLink RL 231 yL_ledger ∈ TB := TBm_3 223 rfl rfl
theorem mi_X7_ledger : MI yX7_ledger cX7_ledger 3 2 (some .int) := ⟨TBm_6 156 rfl rfl, ini_7, ne_7, pd_13, by decide⟩
theorem im_X7_ledger : Cond.instanceMethod yX7_ledger ∈ TB := TBm_6 154 rfl rfl
theorem se_X7_ledger : Cond.selects yX7_ledger.cls yX7_ledger yX7_ledger ∈ TB := TBm_6 155 rfl rfl
theorem ml_L_233 : Cond.methodLink RL 233 yX7_ledger ∈ TB := TBm_6 153 rfl rfl
theorem st_L_ruleWorth : Cond.static yL_ruleWorth ∈ TB := TBm_3 228 rfl rfl
theorem ml_L_234 : Cond.methodLink RL 234 yL_ruleWorth ∈ TB := TBm_3 227 rfl rfl
theorem mi_X7_ruleWorth : MI yX7_ruleWorth cX7_ruleWorth 4 3 (some .int) := ⟨TBm_6 160 rfl rfl, ini_7, ne_7, pd_9, by decide⟩
theorem im_X7_ruleWorth : Cond.instanceMethod yX7_ruleWorth ∈ TB := TBm_6 158 rfl rfl
theorem se_X7_ruleWorth : Cond.selects yX7_ruleWorth.cls yX7_ruleWorth yX7_ruleWorth ∈ TB := TBm_6 159 rfl rfl
theorem ml_L_236 : Cond.methodLink RL 236 yX7_ruleWorth ∈ TB := TBm_6 157 rfl rfl
theorem mi_X7_thrown : MI yX7_thrown cX7_thrown 1 0 (some .int) := ⟨TBm_5 171 rfl rfl, ini_7, ne_7, pd_6, by decide⟩
theorem im_X7_thrown : Cond.instanceMethod yX7_thrown ∈ TB := TBm_5 169 rfl rfl
theorem se_X7_thrown : Cond.selects yX7_thrown.cls yX7_thrown yX7_thrown ∈ TB := TBm_5 170 rfl rfl
theorem ml_L_237 : Cond.methodLink RL 237 yX7_thrown ∈ TB := TBm_5 168 rfl rfl
theorem st_L_addPart : Cond.static yL_addPart ∈ TB := TBm_3 235 rfl rfl
theorem ml_L_241 : Cond.methodLink RL 241 yL_addPart ∈ TB := TBm_3 234 rfl rfl
theorem mi_X7_addPart : MI yX7_addPart cX7_addPart 4 3 (some .int) := ⟨TBm_6 164 rfl rfl, ini_7, ne_7, pd_9, by decide⟩
theorem im_X7_addPart : Cond.instanceMethod yX7_addPart ∈ TB := TBm_6 162 rfl rfl
theorem se_X7_addPart : Cond.selects yX7_addPart.cls yX7_addPart yX7_addPart ∈ TB := TBm_6 163 rfl rfl
theorem ml_L_243 : Cond.methodLink RL 243 yX7_addPart ∈ TB := TBm_6 161 rfl rfl
theorem st_L_takePart : Cond.static yL_takePart ∈ TB := TBm_4 3 rfl rfl
theorem ml_L_244 : Cond.methodLink RL 244 yL_takePart ∈ TB := TBm_4 2 rfl rfl
theorem mi_X7_takePart : MI yX7_takePart cX7_takePart 3 2 (some .int) := ⟨TBm_6 168 rfl rfl, ini_7, ne_7, pd_13, by decide⟩
theorem im_X7_takePart : Cond.instanceMethod yX7_takePart ∈ TB := TBm_6 166 rfl rfl
theorem se_X7_takePart : Cond.selects yX7_takePart.cls yX7_takePart yX7_takePart ∈ TB := TBm_6 167 rfl rfl
theorem ml_L_246 : Cond.methodLink RL 246 yX7_takePart ∈ TB := TBm_6 165 rfl rfl
theorem st_L_layFirst : Cond.static yL_layFirst ∈ TB := TBm_4 10 rfl rfl
theorem ml_L_247 : Cond.methodLink RL 247 yL_layFirst ∈ TB := TBm_4 9 rfl rfl
theorem mi_X7_layFirst : MI yX7_layFirst cX7_layFirst 3 2 (some .int) := ⟨TBm_6 172 rfl rfl, ini_7, ne_7, pd_13, by decide⟩
theorem im_X7_layFirst : Cond.instanceMethod yX7_layFirst ∈ TB := TBm_6 170 rfl rfl
theorem se_X7_layFirst : Cond.selects yX7_layFirst.cls yX7_layFirst yX7_layFirst ∈ TB := TBm_6 171 rfl rfl
theorem ml_L_249 : Cond.methodLink RL 249 yX7_layFirst ∈ TB := TBm_6 169 rfl rfl
theorem st_L_next : Cond.static yL_next ∈ TB := TBm_4 17 rfl rfl
theorem ml_L_250 : Cond.methodLink RL 250 yL_next ∈ TB := TBm_4 16 rfl rfl
theorem mi_X7_next : MI yX7_next cX7_next 2 1 (some .int) := ⟨TBm_6 180 rfl rfl, ini_7, ne_7, pd_10, by decide⟩
theorem im_X7_next : Cond.instanceMethod yX7_next ∈ TB := TBm_6 178 rfl rfl
theorem se_X7_next : Cond.selects yX7_next.cls yX7_next yX7_next ∈ TB := TBm_6 179 rfl rfl
theorem ml_L_252 : Cond.methodLink RL 252 yX7_next ∈ TB := TBm_6 177 rfl rfl
theorem st_L_turn : Cond.static yL_turn ∈ TB := TBm_4 24 rfl rfl
theorem ml_L_253 : Cond.methodLink RL 253 yL_turn ∈ TB := TBm_4 23 rfl rfl
theorem mi_X7_turn : MI yX7_turn cX7_turn 4 1 (some .int) := ⟨TBm_6 184 rfl rfl, ini_7, ne_7, pd_10, by decide⟩
theorem im_X7_turn : Cond.instanceMethod yX7_turn ∈ TB := TBm_6 182 rfl rfl
theorem se_X7_turn : Cond.selects yX7_turn.cls yX7_turn yX7_turn ∈ TB := TBm_6 183 rfl rfl
theorem ml_L_255 : Cond.methodLink RL 255 yX7_turn ∈ TB := TBm_6 181 rfl rfl
theorem st_L_toUnlike : Cond.static yL_toUnlike ∈ TB := TBm_4 37 rfl rfl
theorem ml_L_256 : Cond.methodLink RL 256 yL_toUnlike ∈ TB := TBm_4 36 rfl rfl
theorem mi_X7_toUnlike : MI yX7_toUnlike cX7_toUnlike 5 1 (some .int) := ⟨TBm_6 194 rfl rfl, ini_7, ne_7, pd_10, by decide⟩
theorem im_X7_toUnlike : Cond.instanceMethod yX7_toUnlike ∈ TB := TBm_6 192 rfl rfl
theorem se_X7_toUnlike : Cond.selects yX7_toUnlike.cls yX7_toUnlike yX7_toUnlike ∈ TB := TBm_6 193 rfl rfl
theorem ml_L_258 : Cond.methodLink RL 258 yX7_toUnlike ∈ TB := TBm_6 191 rfl rfl
theorem st_L_toOdd : Cond.static yL_toOdd ∈ TB := TBm_4 49 rfl rfl
theorem ml_L_259 : Cond.methodLink RL 259 yL_toOdd ∈ TB := TBm_4 48 rfl rfl
theorem mi_X7_toOdd : MI yX7_toOdd cX7_toOdd 5 1 (some .int) := ⟨TBm_6 198 rfl rfl, ini_7, ne_7, pd_10, by decide⟩
theorem im_X7_toOdd : Cond.instanceMethod yX7_toOdd ∈ TB := TBm_6 196 rfl rfl
theorem se_X7_toOdd : Cond.selects yX7_toOdd.cls yX7_toOdd yX7_toOdd ∈ TB := TBm_6 197 rfl rfl
theorem ml_L_261 : Cond.methodLink RL 261 yX7_toOdd ∈ TB := TBm_6 195 rfl rfl
theorem st_L_copyDesk : Cond.static yL_copyDesk ∈ TB := TBm_4 61 rfl rfl
theorem ml_L_262 : Cond.methodLink RL 262 yL_copyDesk ∈ TB := TBm_4 60 rfl rfl
theorem mi_X7_copyDesk : MI yX7_copyDesk cX7_copyDesk 2 1 (some .int) := ⟨TBm_6 202 rfl rfl, ini_7, ne_7, pd_10, by decide⟩
theorem im_X7_copyDesk : Cond.instanceMethod yX7_copyDesk ∈ TB := TBm_6 200 rfl rfl
theorem se_X7_copyDesk : Cond.selects yX7_copyDesk.cls yX7_copyDesk yX7_copyDesk ∈ TB := TBm_6 201 rfl rfl
theorem ml_L_264 : Cond.methodLink RL 264 yX7_copyDesk ∈ TB := TBm_6 199 rfl rfl
theorem st_L_times : Cond.static yL_times ∈ TB := TBm_4 68 rfl rfl
theorem ml_L_265 : Cond.methodLink RL 265 yL_times ∈ TB := TBm_4 67 rfl rfl
theorem mi_X7_times : MI yX7_times cX7_times 3 2 (some .int) := ⟨TBm_6 206 rfl rfl, ini_7, ne_7, pd_13, by decide⟩
theorem im_X7_times : Cond.instanceMethod yX7_times ∈ TB := TBm_6 204 rfl rfl
theorem se_X7_times : Cond.selects yX7_times.cls yX7_times yX7_times ∈ TB := TBm_6 205 rfl rfl
theorem ml_L_267 : Cond.methodLink RL 267 yX7_times ∈ TB := TBm_6 203 rfl rfl
theorem st_L_way : Cond.static yL_way ∈ TB := TBm_4 72 rfl rfl
theorem ml_L_268 : Cond.methodLink RL 268 yL_way ∈ TB := TBm_4 71 rfl rfl
theorem mi_X7_way : MI yX7_way cX7_way 3 2 (some .int) := ⟨TBm_6 210 rfl rfl, ini_7, ne_7, pd_13, by decide⟩
theorem im_X7_way : Cond.instanceMethod yX7_way ∈ TB := TBm_6 208 rfl rfl
theorem se_X7_way : Cond.selects yX7_way.cls yX7_way yX7_way ∈ TB := TBm_6 209 rfl rfl
theorem ml_L_270 : Cond.methodLink RL 270 yX7_way ∈ TB := TBm_6 207 rfl rfl
theorem st_L_wayText : Cond.static yL_wayText ∈ TB := TBm_4 76 rfl rfl
theorem ml_L_271 : Cond.methodLink RL 271 yL_wayText ∈ TB := TBm_4 75 rfl rfl
theorem mi_X7_wayText : MI yX7_wayText cX7_wayText 5 1 (some (.object "java/lang/String")) := ⟨TBm_6 214 rfl rfl, ini_7, ne_7, pd_62, by decide⟩
theorem im_X7_wayText : Cond.instanceMethod yX7_wayText ∈ TB := TBm_6 212 rfl rfl
theorem se_X7_wayText : Cond.selects yX7_wayText.cls yX7_wayText yX7_wayText ∈ TB := TBm_6 213 rfl rfl
theorem ml_L_273 : Cond.methodLink RL 273 yX7_wayText ∈ TB := TBm_6 211 rfl rfl
theorem st_L_isOf : Cond.static yL_isOf ∈ TB := TBm_5 110 rfl rfl
theorem ml_L_274 : Cond.methodLink RL 274 yL_isOf ∈ TB := TBm_5 109 rfl rfl
theorem mi_X7_isOf : MI yX7_isOf cX7_isOf 4 3 (some .boolean) := ⟨TBm_6 225 rfl rfl, ini_7, ne_7, pd_12, by decide⟩
theorem im_X7_isOf : Cond.instanceMethod yX7_isOf ∈ TB := TBm_6 223 rfl rfl
theorem se_X7_isOf : Cond.selects yX7_isOf.cls yX7_isOf yX7_isOf ∈ TB := TBm_6 224 rfl rfl
theorem ml_L_276 : Cond.methodLink RL 276 yX7_isOf ∈ TB := TBm_6 222 rfl rfl
theorem mi_X5_isSameWay : MI yX5_isSameWay cX5_isSameWay 1 0 (some .boolean) := ⟨TBm_1 147 rfl rfl, ini_5, ne_5, pd_7, by decide⟩
theorem im_X5_isSameWay : Cond.instanceMethod yX5_isSameWay ∈ TB := TBm_1 145 rfl rfl
theorem se_X5_isSameWay : Cond.selects yX5_isSameWay.cls yX5_isSameWay yX5_isSameWay ∈ TB := TBm_1 146 rfl rfl
theorem ml_L_277 : Cond.methodLink RL 277 yX5_isSameWay ∈ TB := TBm_1 144 rfl rfl
theorem mi_X7_isSameWay : MI yX7_isSameWay cX7_isSameWay 1 0 (some .boolean) := ⟨TBm_6 229 rfl rfl, ini_7, ne_7, pd_7, by decide⟩
theorem im_X7_isSameWay : Cond.instanceMethod yX7_isSameWay ∈ TB := TBm_6 227 rfl rfl
theorem se_X7_isSameWay : Cond.selects yX7_isSameWay.cls yX7_isSameWay yX7_isSameWay ∈ TB := TBm_6 228 rfl rfl
theorem ml_L_281 : Cond.methodLink RL 281 yX7_isSameWay ∈ TB := TBm_6 226 rfl rfl
theorem st_L_tally : Cond.static yL_tally ∈ TB := TBm_5 117 rfl rfl
theorem ml_L_282 : Cond.methodLink RL 282 yL_tally ∈ TB := TBm_5 116 rfl rfl
theorem mi_X7_tally : MI yX7_tally cX7_tally 2 1 (some .int) := ⟨TBm_6 233 rfl rfl, ini_7, ne_7, pd_10, by decide⟩
theorem im_X7_tally : Cond.instanceMethod yX7_tally ∈ TB := TBm_6 231 rfl rfl
theorem se_X7_tally : Cond.selects yX7_tally.cls yX7_tally yX7_tally ∈ TB := TBm_6 232 rfl rfl
theorem ml_L_284 : Cond.methodLink RL 284 yX7_tally ∈ TB := TBm_6 230 rfl rfl
theorem mi_X5_knock : MI yX5_knock cX5_knock 1 0 (some .int) := ⟨TBm_1 226 rfl rfl, ini_5, ne_5, pd_6, by decide⟩
theorem im_X5_knock : Cond.instanceMethod yX5_knock ∈ TB := TBm_1 224 rfl rfl
theorem se_X5_knock : Cond.selects yX5_knock.cls yX5_knock yX5_knock ∈ TB := TBm_1 225 rfl rfl
theorem ml_L_285 : Cond.methodLink RL 285 yX5_knock ∈ TB := TBm_1 223 rfl rfl
theorem mi_X7_knock : MI yX7_knock cX7_knock 1 0 (some .int) := ⟨TBm_6 237 rfl rfl, ini_7, ne_7, pd_6, by decide⟩
theorem im_X7_knock : Cond.instanceMethod yX7_knock ∈ TB := TBm_6 235 rfl rfl
theorem se_X7_knock : Cond.selects yX7_knock.cls yX7_knock yX7_knock ∈ TB := TBm_6 236 rfl rfl
theorem ml_L_288 : Cond.methodLink RL 288 yX7_knock ∈ TB := TBm_6 234 rfl rfl
theorem st_L_isSound : Cond.static yL_isSound ∈ TB := TBm_5 121 rfl rfl
theorem ml_L_289 : Cond.methodLink RL 289 yL_isSound ∈ TB := TBm_5 120 rfl rfl
theorem mi_X7_isSound : MI yX7_isSound cX7_isSound 9 1 (some .boolean) := ⟨TBm_7 1 rfl rfl, ini_7, ne_7, pd_5, by decide⟩
theorem im_X7_isSound : Cond.instanceMethod yX7_isSound ∈ TB := TBm_6 239 rfl rfl
theorem se_X7_isSound : Cond.selects yX7_isSound.cls yX7_isSound yX7_isSound ∈ TB := TBm_7 0 rfl rfl
theorem ml_L_291 : Cond.methodLink RL 291 yX7_isSound ∈ TB := TBm_6 238 rfl rfl
theorem pd_63 : (parseMethodDescriptor "()J").map (fun d => d.parameters.length) = some 0 := by decide +kernel
theorem mi_X5_digest : MI yX5_digest cX5_digest 5 0 (some .long) := ⟨TBm_1 230 rfl rfl, ini_5, ne_5, pd_63, by decide⟩
theorem im_X5_digest : Cond.instanceMethod yX5_digest ∈ TB := TBm_1 228 rfl rfl
theorem se_X5_digest : Cond.selects yX5_digest.cls yX5_digest yX5_digest ∈ TB := TBm_1 229 rfl rfl
theorem ml_L_292 : Cond.methodLink RL 292 yX5_digest ∈ TB := TBm_1 227 rfl rfl
theorem mi_X7_digest : MI yX7_digest cX7_digest 8 0 (some .long) := ⟨TBm_7 5 rfl rfl, ini_7, ne_7, pd_63, by decide⟩
theorem im_X7_digest : Cond.instanceMethod yX7_digest ∈ TB := TBm_7 3 rfl rfl
theorem se_X7_digest : Cond.selects yX7_digest.cls yX7_digest yX7_digest ∈ TB := TBm_7 4 rfl rfl
theorem ml_L_296 : Cond.methodLink RL 296 yX7_digest ∈ TB := TBm_7 2 rfl rfl
theorem nw_L_8 : NW RL 8 7 7 [.null, .null, .null, .null, .null, .null, .null] := ⟨RX5, TX5, tyX5, rfl, uw_X5, tyX5_ok, TBm_1 26 rfl rfl, TBm_1 27 rfl rfl, TBm_1 1 rfl rfl, fun j hj => by (have : j = 0 ∨ j = 1 ∨ j = 2 ∨ j = 3 ∨ j = 4 ∨ j = 5 ∨ j = 6 := by omega); rcases this with rfl | rfl | rfl | rfl | rfl | rfl | rfl <;> rfl⟩
theorem mi_X5_init : MI yX5_init cX5_init 2 0 none := ⟨TBm_1 30 rfl rfl, ini_5, ne_5, pd_1, by decide⟩
theorem im_X5_init : Cond.instanceMethod yX5_init ∈ TB := TBm_1 29 rfl rfl
theorem ml_L_150 : Cond.methodLink RL 150 yX5_init ∈ TB := TBm_1 28 rfl rfl
theorem nw_L_151 : NW RL 151 9 6 [.null, .null, .null, .null, .null, .int (0 : Int32)] := ⟨RX7, TX7, tyX7, rfl, uw_X7, tyX7_ok, TBm_5 141 rfl rfl, TBm_5 142 rfl rfl, TBm_1 8 rfl rfl, fun j hj => by (have : j = 0 ∨ j = 1 ∨ j = 2 ∨ j = 3 ∨ j = 4 ∨ j = 5 := by omega); rcases this with rfl | rfl | rfl | rfl | rfl | rfl <;> rfl⟩
theorem mi_X7_init : MI yX7_init cX7_init 6 0 none := ⟨TBm_5 145 rfl rfl, ini_7, ne_7, pd_1, by decide⟩
theorem im_X7_init : Cond.instanceMethod yX7_init ∈ TB := TBm_5 144 rfl rfl
theorem ml_L_153 : Cond.methodLink RL 153 yX7_init ∈ TB := TBm_5 143 rfl rfl
theorem nw_L_14 : NW RL 14 8 2 [.long (0 : Int64), .null] := ⟨RX6, TX6, tyX6, rfl, uw_X6, tyX6_ok, TBm_2 90 rfl rfl, TBm_2 91 rfl rfl, TBm_1 9 rfl rfl, fun j hj => by (have : j = 0 ∨ j = 1 := by omega); rcases this with rfl | rfl <;> rfl⟩
theorem ini_15 : Cond.initialized "SumlarderLaw$Out" ∈ TB := TBm_1 9 rfl rfl
theorem ne_15 : ("SumlarderLaw$Out" : String) ≠ "java/lang/invoke/MethodHandle" ∧ ("SumlarderLaw$Out" : String) ≠ "java/lang/invoke/VarHandle" := by decide +kernel
theorem mi_X6_init : MI yX6_init cX6_init 1 0 none := ⟨TBm_2 94 rfl rfl, ini_15, ne_15, pd_1, by decide⟩
theorem im_X6_init : Cond.instanceMethod yX6_init ∈ TB := TBm_2 93 rfl rfl
theorem mn_L_154 : Cond.methodLinkNest RL 154 yX6_init "SumlarderLaw" ∈ NGW := NGm_2 92 rfl rfl

end MG_40wwords
section MG_40xout
def fX6_init (N K : Nat) (nn : Int64) : Option (Unit) :=
  (some ())
set_option maxHeartbeats 4000000 in
set_option maxRecDepth 100000 in
theorem ok_X6_init {N K : Nat} {o : Nat} {nn : Int64} {xr : Unit} (hE : fX6_init N K nn = some xr) : OkM yX6_init (.code yX6_init cX6_init 1 none) (1) 0 0 [.ref o] [(o, .inr (8, [.long nn, .null]))] ((PN (U := Unit) (fun _ _ => none) (fun zz ad => [(o, .inr (8, [.long nn, .null]))])) xr) := by
  refine ok_of (by decide) (Nat.le_of_ble_eq_true rfl) hE ?_
  refine aw_locals (lv' := [(0, .ref o)]) [0] rfl ?_
  refine aw_aload_n (q := 1) gdX6_init_0.1 rfl 0 rfl ?_
  refine aw_objInit (q := 4) gdX6_init_0.2.1 rfl ml_X6_1 w_oi (by omega) (Nat.le_of_ble_eq_true rfl) ?_
  exact aw_return (w := [(o, .inr (8, [.long nn, .null]))]) [0] gdX6_init_0.2.2 rfl rfl rfl (PN.mk (fun _ => 0) rfl rfl)

end MG_40xout
