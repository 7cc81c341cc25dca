theorem mm_J8_194 : Cond.methodLink RJ8 194 Lib.Math.max.name ∈ TB := TB_tab 862 (by decide +kernel) rfl
theorem ms_max : Cond.static Lib.Math.max.name ∈ TB := TB_tab 863 (by decide +kernel) rfl
theorem mi_Math : Cond.initialized "java/lang/Math" ∈ TB := TB_tab 21 (by decide +kernel) rfl
theorem mc_max : Cond.code Lib.Math.max.name Lib.Math.max.code 2 (some .int) ∈ TB := TB_tab 864 (by decide +kernel) rfl
theorem co_J8_200 : Cond.constant RJ8 200 (2147483639) ∈ TB := TB_tab 865 (by decide +kernel) rfl
theorem uw_J4 : ∀ w ∈ u_ws RJ4 TJ4 4, w ∈ TB := by
  have h : ∀ w ∈ u_ws RJ4 TJ4 4, decide (w ∈ tables_1) = true ∧ goodWord w = true := by decide +kernel
  exact fun w hw => TB_in (List.mem_append_right _ (of_decide_eq_true (h w hw).1)) (h w hw).2
theorem fl_J5_79 : FG RJ5 79 1 3 .int false := ⟨RJ4, TJ4, 4, tyJ4, rfl, by decide, uw_J4, TB_tab 827 (by decide +kernel) rfl, tyJ4_ok, nmJ4, rfl, rfl⟩
theorem ini_8 : Cond.initialized "java/lang/AbstractStringBuilder" ∈ TB := TB_tab 16 (by decide +kernel) rfl
theorem ne_8 : ("java/lang/AbstractStringBuilder" : String) ≠ "java/lang/invoke/MethodHandle" ∧ ("java/lang/AbstractStringBuilder" : String) ≠ "java/lang/invoke/VarHandle" := by decide +kernel
theorem mi_J5_length_8abf5 : MI yJ5_length_8abf5 cJ5_length_8abf5 1 0 (some .int) := ⟨TB_tab 843 (by decide +kernel) rfl, ini_8, ne_8, pd_6, by decide⟩
theorem sm_J5_length_8abf5 : Cond.sameMethod yJ5_length_8abf5.cls yJ5_length_8abf5.cls yJ5_length_8abf5.name yJ5_length_8abf5.desc ∈ TB := TB_tab 1449 (by decide +kernel) rfl
theorem sp_J4_J5 : Cond.superclass RJ4 yJ5_length_8abf5.cls ∈ TB := TB_tab 836 (by decide +kernel) rfl
theorem im_J5_length_8abf5 : Cond.instanceMethod yJ5_length_8abf5 ∈ TB := TB_tab 842 (by decide +kernel) rfl
theorem ml_J4_343 : Cond.methodLink RJ4 343 yJ5_length_8abf5 ∈ TB := TB_tab 841 (by decide +kernel) rfl
theorem gs_J5_18 : Cond.fieldLink RJ5 18 "java/lang/String" "COMPACT_STRINGS" "Z" ∈ TB := TB_tab 815 (by decide +kernel) rfl
theorem fl_J5_22 : FG RJ5 22 1 1 .byte false := ⟨RJ4, TJ4, 4, tyJ4, rfl, by decide, uw_J4, TB_tab 825 (by decide +kernel) rfl, tyJ4_ok, nmJ4, rfl, rfl⟩
theorem fl_J5_15 : FG RJ5 15 1 0 (.array .byte) false := ⟨RJ4, TJ4, 4, tyJ4, rfl, by decide, uw_J4, TB_tab 824 (by decide +kernel) rfl, tyJ4_ok, nmJ4, rfl, rfl⟩
theorem ac_byte : Cond.arrayClass .byte ∈ TB := TB_tab 218 (by decide +kernel) rfl
theorem mm_J7_304 : Cond.methodLink RJ7 304 Lib.Math.min.name ∈ TB := TB_tab 880 (by decide +kernel) rfl
theorem ms_min : Cond.static Lib.Math.min.name ∈ TB := TB_tab 881 (by decide +kernel) rfl
theorem mc_min : Cond.code Lib.Math.min.name Lib.Math.min.code 2 (some .int) ∈ TB := TB_tab 882 (by decide +kernel) rfl
theorem ml_J7_150 : Cond.methodLink RJ7 150 arraycopyName ∈ TB := TB_tab 883 (by decide +kernel) rfl
theorem w_cl : Cond.methodLink RJ7 310 ⟨"[B", "clone", "()Ljava/lang/Object;"⟩ ∈ TB ∧ Cond.sameMethod "[B" "java/lang/Object" "clone" "()Ljava/lang/Object;" ∈ TB ∧ Cond.native ⟨"java/lang/Object", "clone", "()Ljava/lang/Object;"⟩ ∈ TB ∧ Cond.instanceMethod ⟨"java/lang/Object", "clone", "()Ljava/lang/Object;"⟩ ∈ TB ∧ Cond.selects "[B" ⟨"[B", "clone", "()Ljava/lang/Object;"⟩ ⟨"java/lang/Object", "clone", "()Ljava/lang/Object;"⟩ ∈ TB ∧ Cond.castable "[B" "java/lang/Cloneable" ∈ NGW ∧ Cond.classLink RJ7 311 "[B" ∈ TB := ⟨TB_tab 873 (by decide +kernel) rfl, TB_tab 874 (by decide +kernel) rfl, TB_tab 875 (by decide +kernel) rfl, TB_tab 876 (by decide +kernel) rfl, TB_tab 877 (by decide +kernel) rfl, NGW_tab 878 (by decide +kernel) rfl, TB_tab 879 (by decide +kernel) rfl⟩
theorem mi_J7_checkLength_df160 : MI yJ7_checkLength_df160 cJ7_checkLength_df160 2 2 none := ⟨TB_tab 999 (by decide +kernel) rfl, ini_0, ne_0, pd_2, by decide⟩
theorem st_J7_checkLength_df160 : Cond.static yJ7_checkLength_df160 ∈ TB := TB_tab 998 (by decide +kernel) rfl
theorem ml_J7_343 : Cond.methodLink RJ7 343 yJ7_checkLength_df160 ∈ TB := TB_tab 997 (by decide +kernel) rfl
theorem pd_43 : (parseMethodDescriptor "([BII)[B").map (fun d => d.parameters.length) = some 3 := by decide +kernel
theorem mi_J7_copyOfRangeByte_39247 : MI yJ7_copyOfRangeByte_39247 cJ7_copyOfRangeByte_39247 5 3 (some (.array .byte)) := ⟨TB_tab 996 (by decide +kernel) rfl, ini_0, ne_0, pd_43, by decide⟩
theorem st_J7_copyOfRangeByte_39247 : Cond.static yJ7_copyOfRangeByte_39247 ∈ TB := TB_tab 995 (by decide +kernel) rfl
theorem ml_J7_339 : Cond.methodLink RJ7 339 yJ7_copyOfRangeByte_39247 ∈ TB := TB_tab 994 (by decide +kernel) rfl
theorem ini_9 : Cond.initialized "jdk/internal/util/ArraysSupport" ∈ TB := TB_tab 20 (by decide +kernel) rfl
theorem ne_9 : ("jdk/internal/util/ArraysSupport" : String) ≠ "java/lang/invoke/MethodHandle" ∧ ("jdk/internal/util/ArraysSupport" : String) ≠ "java/lang/invoke/VarHandle" := by decide +kernel
theorem mi_J8_newLength_cabcc : MI yJ8_newLength_cabcc cJ8_newLength_cabcc 4 3 (some .int) := ⟨TB_tab 861 (by decide +kernel) rfl, ini_9, ne_9, pd_9, by decide⟩
theorem st_J8_newLength_cabcc : Cond.static yJ8_newLength_cabcc ∈ TB := TB_tab 860 (by decide +kernel) rfl
theorem ml_J5_114 : Cond.methodLink RJ5 114 yJ8_newLength_cabcc ∈ TB := TB_tab 859 (by decide +kernel) rfl
theorem co_J5_39 : Cond.constant RJ5 39 (2147483647) ∈ TB := TB_tab 869 (by decide +kernel) rfl
theorem mi_J5_newCapacity_0f7a4 : MI yJ5_newCapacity_0f7a4 cJ5_newCapacity_0f7a4 6 1 (some .int) := ⟨TB_tab 858 (by decide +kernel) rfl, ini_8, ne_8, pd_10, by decide⟩
theorem su_J5_isLatin1_aae02 : Cond.selects RJ4 yJ5_isLatin1_aae02 yJ5_isLatin1_aae02 ∈ TB := TB_tab 887 (by decide +kernel) rfl
theorem pv_J5_newCapacity_0f7a4 : Cond.privateMethod yJ5_newCapacity_0f7a4 ∈ NGW := NGW_tab 856 (by decide +kernel) rfl
theorem im_J5_newCapacity_0f7a4 : Cond.instanceMethod yJ5_newCapacity_0f7a4 ∈ TB := TB_tab 857 (by decide +kernel) rfl
theorem sm_J5_newCapacity_0f7a4 : Cond.sameMethod yJ5_newCapacity_0f7a4.cls yJ5_newCapacity_0f7a4.cls yJ5_newCapacity_0f7a4.name yJ5_newCapacity_0f7a4.desc ∈ TB := TB_tab 1452 (by decide +kernel) rfl
theorem cd_J5_newCapacity_0f7a4 : Cond.code yJ5_newCapacity_0f7a4 cJ5_newCapacity_0f7a4 6 (some .int) ∈ TB := TB_tab 858 (by decide +kernel) rfl
theorem ml_J5_104 : Cond.methodLink RJ5 104 yJ5_newCapacity_0f7a4 ∈ TB := TB_tab 855 (by decide +kernel) rfl
theorem pd_44 : (parseMethodDescriptor "([BI)[B").map (fun d => d.parameters.length) = some 2 := by decide +kernel
theorem mi_J7_copyOf_9075b : MI yJ7_copyOf_9075b cJ7_copyOf_9075b 3 2 (some (.array .byte)) := ⟨TB_tab 872 (by decide +kernel) rfl, ini_0, ne_0, pd_44, by decide⟩
theorem st_J7_copyOf_9075b : Cond.static yJ7_copyOf_9075b ∈ TB := TB_tab 871 (by decide +kernel) rfl
theorem ml_J5_108 : Cond.methodLink RJ5 108 yJ7_copyOf_9075b ∈ TB := TB_tab 870 (by decide +kernel) rfl
theorem gs_J6_83 : Cond.fieldLink RJ6 83 "java/lang/Integer" "DigitOnes" "[B" ∈ TB := TB_tab 950 (by decide +kernel) rfl
theorem gs_J6_87 : Cond.fieldLink RJ6 87 "java/lang/Integer" "DigitTens" "[B" ∈ TB := TB_tab 952 (by decide +kernel) rfl
theorem mi_J5_ensureCapacityInternal_d00df : MI yJ5_ensureCapacityInternal_d00df cJ5_ensureCapacityInternal_d00df 3 1 none := ⟨TB_tab 854 (by decide +kernel) rfl, ini_8, ne_8, pd_8, by decide⟩
theorem pv_J5_ensureCapacityInternal_d00df : Cond.privateMethod yJ5_ensureCapacityInternal_d00df ∈ NGW := NGW_tab 852 (by decide +kernel) rfl
theorem im_J5_ensureCapacityInternal_d00df : Cond.instanceMethod yJ5_ensureCapacityInternal_d00df ∈ TB := TB_tab 853 (by decide +kernel) rfl
theorem sm_J5_ensureCapacityInternal_d00df : Cond.sameMethod yJ5_ensureCapacityInternal_d00df.cls yJ5_ensureCapacityInternal_d00df.cls yJ5_ensureCapacityInternal_d00df.name yJ5_ensureCapacityInternal_d00df.desc ∈ TB := TB_tab 1451 (by decide +kernel) rfl
theorem cd_J5_ensureCapacityInternal_d00df : Cond.code yJ5_ensureCapacityInternal_d00df cJ5_ensureCapacityInternal_d00df 3 none ∈ TB := TB_tab 854 (by decide +kernel) rfl
theorem ml_J5_100 : Cond.methodLink RJ5 100 yJ5_ensureCapacityInternal_d00df ∈ TB := TB_tab 851 (by decide +kernel) rfl
theorem mi_J5_isLatin1_aae02 : MI yJ5_isLatin1_aae02 cJ5_isLatin1_aae02 1 0 (some .boolean) := ⟨TB_tab 888 (by decide +kernel) rfl, ini_8, ne_8, pd_7, by decide⟩
theorem sm_J5_isLatin1_aae02 : Cond.sameMethod yJ5_isLatin1_aae02.cls yJ5_isLatin1_aae02.cls yJ5_isLatin1_aae02.name yJ5_isLatin1_aae02.desc ∈ TB := TB_tab 886 (by decide +kernel) rfl
theorem cd_J5_isLatin1_aae02 : Cond.code yJ5_isLatin1_aae02 cJ5_isLatin1_aae02 1 (some .boolean) ∈ TB := TB_tab 888 (by decide +kernel) rfl
theorem ml_J5_83 : Cond.methodLink RJ5 83 yJ5_isLatin1_aae02 ∈ TB := TB_tab 884 (by decide +kernel) rfl
theorem im_J5_isLatin1_aae02 : Cond.instanceMethod yJ5_isLatin1_aae02 ∈ TB := TB_tab 885 (by decide +kernel) rfl
theorem ini_10 : Cond.initialized "java/lang/StringLatin1" ∈ TB := TB_tab 22 (by decide +kernel) rfl
theorem ne_10 : ("java/lang/StringLatin1" : String) ≠ "java/lang/invoke/MethodHandle" ∧ ("java/lang/StringLatin1" : String) ≠ "java/lang/invoke/VarHandle" := by decide +kernel
theorem pd_45 : (parseMethodDescriptor "(C)Z").map (fun d => d.parameters.length) = some 1 := by decide +kernel
theorem mi_J1_canEncode_fc78d : MI yJ1_canEncode_fc78d cJ1_canEncode_fc78d 1 1 (some .boolean) := ⟨TB_tab 891 (by decide +kernel) rfl, ini_10, ne_10, pd_45, by decide⟩
theorem st_J1_canEncode_fc78d : Cond.static yJ1_canEncode_fc78d ∈ TB := TB_tab 890 (by decide +kernel) rfl
theorem ml_J5_191 : Cond.methodLink RJ5 191 yJ1_canEncode_fc78d ∈ TB := TB_tab 889 (by decide +kernel) rfl
theorem ini_11 : Cond.initialized "java/lang/Integer" ∈ TB := TB_tab 25 (by decide +kernel) rfl
theorem ne_11 : ("java/lang/Integer" : String) ≠ "java/lang/invoke/MethodHandle" ∧ ("java/lang/Integer" : String) ≠ "java/lang/invoke/VarHandle" := by decide +kernel
theorem mi_J6_stringSize_0f7a4 : MI yJ6_stringSize_0f7a4 cJ6_stringSize_0f7a4 4 1 (some .int) := ⟨TB_tab 946 (by decide +kernel) rfl, ini_11, ne_11, pd_10, by decide⟩
theorem st_J6_stringSize_0f7a4 : Cond.static yJ6_stringSize_0f7a4 ∈ TB := TB_tab 945 (by decide +kernel) rfl
theorem ml_J5_245 : Cond.methodLink RJ5 245 yJ6_stringSize_0f7a4 ∈ TB := TB_tab 944 (by decide +kernel) rfl
theorem pd_46 : (parseMethodDescriptor "(II[B)I").map (fun d => d.parameters.length) = some 3 := by decide +kernel
theorem mi_J6_getChars_ba4f3 : MI yJ6_getChars_ba4f3 cJ6_getChars_ba4f3 7 3 (some .int) := ⟨TB_tab 949 (by decide +kernel) rfl, ini_11, ne_11, pd_46, by decide⟩
theorem st_J6_getChars_ba4f3 : Cond.static yJ6_getChars_ba4f3 ∈ TB := TB_tab 948 (by decide +kernel) rfl
theorem ml_J5_248 : Cond.methodLink RJ5 248 yJ6_getChars_ba4f3 ∈ TB := TB_tab 947 (by decide +kernel) rfl
theorem pd_47 : (parseMethodDescriptor "(C)Ljava/lang/AbstractStringBuilder;").map (fun d => d.parameters.length) = some 1 := by decide +kernel
theorem mi_J5_append_3fe6f : MI yJ5_append_3fe6f cJ5_append_3fe6f 2 1 (some (.object "java/lang/AbstractStringBuilder")) := ⟨TB_tab 850 (by decide +kernel) rfl, ini_8, ne_8, pd_47, by decide⟩
theorem sm_J5_append_3fe6f : Cond.sameMethod yJ5_append_3fe6f.cls yJ5_append_3fe6f.cls yJ5_append_3fe6f.name yJ5_append_3fe6f.desc ∈ TB := TB_tab 1450 (by decide +kernel) rfl
theorem im_J5_append_3fe6f : Cond.instanceMethod yJ5_append_3fe6f ∈ TB := TB_tab 849 (by decide +kernel) rfl
theorem ml_J4_50 : Cond.methodLink RJ4 50 yJ5_append_3fe6f ∈ TB := TB_tab 848 (by decide +kernel) rfl
theorem pd_48 : (parseMethodDescriptor "(I)Ljava/lang/AbstractStringBuilder;").map (fun d => d.parameters.length) = some 1 := by decide +kernel
theorem mi_J5_append_c97b9 : MI yJ5_append_c97b9 cJ5_append_c97b9 4 1 (some (.object "java/lang/AbstractStringBuilder")) := ⟨TB_tab 943 (by decide +kernel) rfl, ini_8, ne_8, pd_48, by decide⟩
theorem sm_J5_append_c97b9 : Cond.sameMethod yJ5_append_c97b9.cls yJ5_append_c97b9.cls yJ5_append_c97b9.name yJ5_append_c97b9.desc ∈ TB := TB_tab 1454 (by decide +kernel) rfl
theorem im_J5_append_c97b9 : Cond.instanceMethod yJ5_append_c97b9 ∈ TB := TB_tab 942 (by decide +kernel) rfl
theorem ml_J4_53 : Cond.methodLink RJ4 53 yJ5_append_c97b9 ∈ TB := TB_tab 941 (by decide +kernel) rfl
theorem ml_J5_3 : Cond.methodLink RJ5 3 objectInit ∈ TB := TB_tab 814 (by decide +kernel) rfl
theorem mi_J5_init_d00df : MI yJ5_init_d00df cJ5_init_d00df 2 1 none := ⟨TB_tab 813 (by decide +kernel) rfl, ini_8, ne_8, pd_8, by decide⟩
theorem im_J5_init_d00df : Cond.instanceMethod yJ5_init_d00df ∈ TB := TB_tab 812 (by decide +kernel) rfl
theorem ml_J4_1 : Cond.methodLink RJ4 1 yJ5_init_d00df ∈ TB := TB_tab 811 (by decide +kernel) rfl
theorem ml_J0_1 : Cond.methodLink RJ0 1 objectInit ∈ TB := TB_tab 983 (by decide +kernel) rfl
theorem pd_49 : (parseMethodDescriptor "()[B").map (fun d => d.parameters.length) = some 0 := by decide +kernel
theorem mi_J5_getValue_6d5f1 : MI yJ5_getValue_6d5f1 cJ5_getValue_6d5f1 1 0 (some (.array .byte)) := ⟨TB_tab 988 (by decide +kernel) rfl, ini_8, ne_8, pd_49, by decide⟩
theorem su_J5_getValue_6d5f1 : Cond.selects RJ4 yJ5_getValue_6d5f1 yJ5_getValue_6d5f1 ∈ TB := TB_tab 987 (by decide +kernel) rfl
theorem sm_J5_getValue_6d5f1 : Cond.sameMethod yJ5_getValue_6d5f1.cls yJ5_getValue_6d5f1.cls yJ5_getValue_6d5f1.name yJ5_getValue_6d5f1.desc ∈ TB := TB_tab 986 (by decide +kernel) rfl
theorem cd_J5_getValue_6d5f1 : Cond.code yJ5_getValue_6d5f1 cJ5_getValue_6d5f1 1 (some (.array .byte)) ∈ TB := TB_tab 988 (by decide +kernel) rfl
theorem ml_J0_552 : Cond.methodLink RJ0 552 yJ5_getValue_6d5f1 ∈ TB := TB_tab 984 (by decide +kernel) rfl
theorem im_J5_getValue_6d5f1 : Cond.instanceMethod yJ5_getValue_6d5f1 ∈ TB := TB_tab 985 (by decide +kernel) rfl
theorem ini_12 : Cond.initialized "java/lang/StringBuilder" ∈ TB := TB_tab 17 (by decide +kernel) rfl
theorem ne_12 : ("java/lang/StringBuilder" : String) ≠ "java/lang/invoke/MethodHandle" ∧ ("java/lang/StringBuilder" : String) ≠ "java/lang/invoke/VarHandle" := by decide +kernel
theorem mi_J4_length_8abf5 : MI yJ4_length_8abf5 cJ4_length_8abf5 1 0 (some .int) := ⟨TB_tab 840 (by decide +kernel) rfl, ini_12, ne_12, pd_6, by decide⟩
theorem su_J5_length_8abf5 : Cond.selects RJ4 yJ5_length_8abf5 yJ4_length_8abf5 ∈ TB := TB_tab 1455 (by decide +kernel) rfl
theorem cd_J5_length_8abf5 : Cond.code yJ5_length_8abf5 cJ5_length_8abf5 1 (some .int) ∈ TB := TB_tab 843 (by decide +kernel) rfl
theorem ml_J0_549 : Cond.methodLink RJ0 549 yJ5_length_8abf5 ∈ TB := TB_tab 989 (by decide +kernel) rfl
theorem im_J4_length_8abf5 : Cond.instanceMethod yJ4_length_8abf5 ∈ TB := TB_tab 838 (by decide +kernel) rfl
theorem ml_J0_1047 : Cond.methodLink RJ0 1047 yJ5_isLatin1_aae02 ∈ TB := TB_tab 990 (by decide +kernel) rfl
theorem gs_J0_38 : Cond.fieldLink RJ0 38 "java/lang/String" "COMPACT_STRINGS" "Z" ∈ TB := TB_tab 1027 (by decide +kernel) rfl
theorem fl_J0_1048 : FG RJ0 1048 1 2 .boolean false := ⟨RJ4, TJ4, 4, tyJ4, rfl, by decide, uw_J4, TB_tab 826 (by decide +kernel) rfl, tyJ4_ok, nmJ4, rfl, rfl⟩
theorem uw_J0 : ∀ w ∈ u_ws RJ0 TJ0 4, w ∈ TB := by
  have h : ∀ w ∈ u_ws RJ0 TJ0 4, decide (w ∈ tables_1) = true ∧ goodWord w = true := by decide +kernel
  exact fun w hw => TB_in (List.mem_append_right _ (of_decide_eq_true (h w hw).1)) (h w hw).2
theorem fl_J0_15 : FG RJ0 15 0 1 .byte true := ⟨RJ0, TJ0, 4, tyJ0, rfl, by decide, uw_J0, TB_tab 1059 (by decide +kernel) rfl, tyJ0_ok, nmJ0, rfl, rfl⟩
theorem mi_J7_copyOfRange_39247 : MI yJ7_copyOfRange_39247 cJ7_copyOfRange_39247 3 3 (some (.array .byte)) := ⟨TB_tab 993 (by decide +kernel) rfl, ini_0, ne_0, pd_43, by decide⟩
theorem st_J7_copyOfRange_39247 : Cond.static yJ7_copyOfRange_39247 ∈ TB := TB_tab 992 (by decide +kernel) rfl
theorem ml_J0_54 : Cond.methodLink RJ0 54 yJ7_copyOfRange_39247 ∈ TB := TB_tab 991 (by decide +kernel) rfl
theorem fl_J0_9 : FG RJ0 9 0 0 (.array .byte) true := ⟨RJ0, TJ0, 4, tyJ0, rfl, by decide, uw_J0, TB_tab 1058 (by decide +kernel) rfl, tyJ0_ok, nmJ0, rfl, rfl⟩
theorem ini_13 : Cond.initialized "java/lang/String" ∈ TB := TB_tab 18 (by decide +kernel) rfl
theorem ne_13 : ("java/lang/String" : String) ≠ "java/lang/invoke/MethodHandle" ∧ ("java/lang/String" : String) ≠ "java/lang/invoke/VarHandle" := by decide +kernel
theorem pd_50 : (parseMethodDescriptor "(Ljava/lang/AbstractStringBuilder;Ljava/lang/Void;)V").map (fun d => d.parameters.length) = some 2 := by decide +kernel
theorem mi_J0_init_db425 : MI yJ0_init_db425 cJ0_init_db425 5 2 none := ⟨TB_tab 982 (by decide +kernel) rfl, ini_13, ne_13, pd_50, by decide⟩
theorem im_J0_init_db425 : Cond.instanceMethod yJ0_init_db425 ∈ TB := TB_tab 981 (by decide +kernel) rfl
theorem ml_J0_489 : Cond.methodLink RJ0 489 yJ0_init_db425 ∈ TB := TB_tab 980 (by decide +kernel) rfl
theorem nw_J4_18 : NW RJ4 18 0 4 [.null, .int (0 : Int32), .int (0 : Int32), .int (0 : Int32)] := ⟨RJ0, TJ0, tyJ0, rfl, uw_J0, tyJ0_ok, TB_tab 975 (by decide +kernel) rfl, TB_tab 976 (by decide +kernel) rfl, TB_tab 18 (by decide +kernel) rfl, fun j hj => by (have : j = 0 ∨ j = 1 ∨ j = 2 ∨ j = 3 := by omega); rcases this with rfl | rfl | rfl | rfl <;> rfl⟩
theorem pd_51 : (parseMethodDescriptor "(Ljava/lang/StringBuilder;)V").map (fun d => d.parameters.length) = some 1 := by decide +kernel
theorem mi_J0_init_81219 : MI yJ0_init_81219 cJ0_init_81219 2 1 none := ⟨TB_tab 979 (by decide +kernel) rfl, ini_13, ne_13, pd_51, by decide⟩
theorem im_J0_init_81219 : Cond.instanceMethod yJ0_init_81219 ∈ TB := TB_tab 978 (by decide +kernel) rfl
theorem ml_J4_137 : Cond.methodLink RJ4 137 yJ0_init_81219 ∈ TB := TB_tab 977 (by decide +kernel) rfl
theorem nw_X4_63 : NW RX4 63 1 4 [.null, .int (0 : Int32), .int (0 : Int32), .int (0 : Int32)] := ⟨RJ4, TJ4, tyJ4, rfl, uw_J4, tyJ4_ok, TB_tab 806 (by decide +kernel) rfl, TB_tab 807 (by decide +kernel) rfl, TB_tab 17 (by decide +kernel) rfl, fun j hj => by (have : j = 0 ∨ j = 1 ∨ j = 2 ∨ j = 3 := by omega); rcases this with rfl | rfl | rfl | rfl <;> rfl⟩
theorem mi_J4_init_da8c8 : MI yJ4_init_da8c8 cJ4_init_da8c8 1 0 none := ⟨TB_tab 810 (by decide +kernel) rfl, ini_12, ne_12, pd_1, by decide⟩
theorem im_J4_init_da8c8 : Cond.instanceMethod yJ4_init_da8c8 ∈ TB := TB_tab 809 (by decide +kernel) rfl
theorem ml_X4_65 : Cond.methodLink RX4 65 yJ4_init_da8c8 ∈ TB := TB_tab 808 (by decide +kernel) rfl
theorem pd_52 : (parseMethodDescriptor "()Ljava/lang/String;").map (fun d => d.parameters.length) = some 0 := by decide +kernel
theorem mi_J4_toString_0e30d : MI yJ4_toString_0e30d cJ4_toString_0e30d 1 0 (some (.object "java/lang/String")) := ⟨TB_tab 974 (by decide +kernel) rfl, ini_12, ne_12, pd_52, by decide⟩
theorem im_J4_toString_0e30d : Cond.instanceMethod yJ4_toString_0e30d ∈ TB := TB_tab 972 (by decide +kernel) rfl
theorem se_J4_toString_0e30d : Cond.selects yJ4_toString_0e30d.cls yJ4_toString_0e30d yJ4_toString_0e30d ∈ TB := TB_tab 973 (by decide +kernel) rfl
theorem ml_X4_76 : Cond.methodLink RX4 76 yJ4_toString_0e30d ∈ TB := TB_tab 971 (by decide +kernel) rfl
theorem se_J4_length_8abf5 : Cond.selects yJ4_length_8abf5.cls yJ4_length_8abf5 yJ4_length_8abf5 ∈ TB := TB_tab 839 (by decide +kernel) rfl
theorem ml_X4_66 : Cond.methodLink RX4 66 yJ4_length_8abf5 ∈ TB := TB_tab 837 (by decide +kernel) rfl
theorem pd_53 : (parseMethodDescriptor "(I)Ljava/lang/StringBuilder;").map (fun d => d.parameters.length) = some 1 := by decide +kernel
theorem mi_J4_append_bf812 : MI yJ4_append_bf812 cJ4_append_bf812 2 1 (some (.object "java/lang/StringBuilder")) := ⟨TB_tab 940 (by decide +kernel) rfl, ini_12, ne_12, pd_53, by decide⟩
theorem im_J4_append_bf812 : Cond.instanceMethod yJ4_append_bf812 ∈ TB := TB_tab 938 (by decide +kernel) rfl
theorem se_J4_append_bf812 : Cond.selects yJ4_append_bf812.cls yJ4_append_bf812 yJ4_append_bf812 ∈ TB := TB_tab 939 (by decide +kernel) rfl
theorem ml_X4_73 : Cond.methodLink RX4 73 yJ4_append_bf812 ∈ TB := TB_tab 937 (by decide +kernel) rfl
theorem pd_54 : (parseMethodDescriptor "(C)Ljava/lang/StringBuilder;").map (fun d => d.parameters.length) = some 1 := by decide +kernel
theorem mi_J4_append_cf468 : MI yJ4_append_cf468 cJ4_append_cf468 2 1 (some (.object "java/lang/StringBuilder")) := ⟨TB_tab 847 (by decide +kernel) rfl, ini_12, ne_12, pd_54, by decide⟩
theorem im_J4_append_cf468 : Cond.instanceMethod yJ4_append_cf468 ∈ TB := TB_tab 845 (by decide +kernel) rfl
theorem se_J4_append_cf468 : Cond.selects yJ4_append_cf468.cls yJ4_append_cf468 yJ4_append_cf468 ∈ TB := TB_tab 846 (by decide +kernel) rfl
theorem ml_X4_69 : Cond.methodLink RX4 69 yJ4_append_cf468 ∈ TB := TB_tab 844 (by decide +kernel) rfl
theorem mi_X4_text : MI yX4_text cX4_text 4 0 (some (.object "java/lang/String")) := ⟨TB_tab 805 (by decide +kernel) rfl, ini_1, ne_1, pd_52, by decide⟩
theorem im_X4_text : Cond.instanceMethod yX4_text ∈ TB := TB_tab 803 (by decide +kernel) rfl
theorem se_X4_text : Cond.selects yX4_text.cls yX4_text yX4_text ∈ TB := TB_tab 804 (by decide +kernel) rfl
theorem ml_X5_204 : Cond.methodLink RX5 204 yX4_text ∈ TB := TB_tab 802 (by decide +kernel) rfl
theorem nw_X7_179 : NW RX7 179 1 4 [.null, .int (0 : Int32), .int (0 : Int32), .int (0 : Int32)] := ⟨RJ4, TJ4, tyJ4, rfl, uw_J4, tyJ4_ok, TB_tab 1416 (by decide +kernel) rfl, TB_tab 807 (by decide +kernel) rfl, TB_tab 17 (by decide +kernel) rfl, fun j hj => by (have : j = 0 ∨ j = 1 ∨ j = 2 ∨ j = 3 := by omega); rcases this with rfl | rfl | rfl | rfl <;> rfl⟩
theorem ml_X7_181 : Cond.methodLink RX7 181 yJ4_init_da8c8 ∈ TB := TB_tab 1417 (by decide +kernel) rfl
theorem ml_X7_192 : Cond.methodLink RX7 192 yJ4_toString_0e30d ∈ TB := TB_tab 1421 (by decide +kernel) rfl
theorem ml_X7_182 : Cond.methodLink RX7 182 yJ4_length_8abf5 ∈ TB := TB_tab 1418 (by decide +kernel) rfl
theorem ml_X7_189 : Cond.methodLink RX7 189 yJ4_append_bf812 ∈ TB := TB_tab 1420 (by decide +kernel) rfl
theorem ml_X7_185 : Cond.methodLink RX7 185 yJ4_append_cf468 ∈ TB := TB_tab 1419 (by decide +kernel) rfl
