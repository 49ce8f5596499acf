theorem hkX6_describe_1 : tX6_describe_1.all (mchk 8 false ((Option.some Jvm.ClassFile.FieldType.int)) cX6_describe) = true := by decide +kernel
theorem htX6_describe : mTC 8 false ((Option.some Jvm.ClassFile.FieldType.int)) cX6_describe tX6_describe := mTC_cons hkX6_describe_0 (mTC_cons hkX6_describe_1 (mTC_nil))
theorem hkX6_outputByte_0 : tX6_outputByte_0.all (mchk 8 false ((Option.some Jvm.ClassFile.FieldType.int)) cX6_outputByte) = true := by decide +kernel
theorem hkX6_outputByte_1 : tX6_outputByte_1.all (mchk 8 false ((Option.some Jvm.ClassFile.FieldType.int)) cX6_outputByte) = true := by decide +kernel
theorem htX6_outputByte : mTC 8 false ((Option.some Jvm.ClassFile.FieldType.int)) cX6_outputByte tX6_outputByte := mTC_cons hkX6_outputByte_0 (mTC_cons hkX6_outputByte_1 (mTC_nil))
theorem hkX6_append_0 : tX6_append_0.all (mchk 8 false ((Option.some Jvm.ClassFile.FieldType.int)) cX6_append) = true := by decide +kernel
theorem htX6_append : mTC 8 false ((Option.some Jvm.ClassFile.FieldType.int)) cX6_append tX6_append := mTC_cons hkX6_append_0 (mTC_nil)
theorem hkX6_clearText_0 : tX6_clearText_0.all (mchk 8 false ((Option.some Jvm.ClassFile.FieldType.int)) cX6_clearText) = true := by decide +kernel
theorem htX6_clearText : mTC 8 false ((Option.some Jvm.ClassFile.FieldType.int)) cX6_clearText tX6_clearText := mTC_cons hkX6_clearText_0 (mTC_nil)
theorem hkX6_runScript_0 : tX6_runScript_0.all (mchk 8 false ((Option.some Jvm.ClassFile.FieldType.int)) cX6_runScript) = true := by decide +kernel
theorem hkX6_runScript_1 : tX6_runScript_1.all (mchk 8 false ((Option.some Jvm.ClassFile.FieldType.int)) cX6_runScript) = true := by decide +kernel
theorem hkX6_runScript_2 : tX6_runScript_2.all (mchk 8 false ((Option.some Jvm.ClassFile.FieldType.int)) cX6_runScript) = true := by decide +kernel
theorem hkX6_runScript_3 : tX6_runScript_3.all (mchk 8 false ((Option.some Jvm.ClassFile.FieldType.int)) cX6_runScript) = true := by decide +kernel
theorem htX6_runScript : mTC 8 false ((Option.some Jvm.ClassFile.FieldType.int)) cX6_runScript tX6_runScript := mTC_cons hkX6_runScript_0 (mTC_cons hkX6_runScript_1 (mTC_cons hkX6_runScript_2 (mTC_cons hkX6_runScript_3 (mTC_nil))))
theorem hkX6_errorCount_0 : tX6_errorCount_0.all (mchk 8 false ((Option.some Jvm.ClassFile.FieldType.int)) cX6_errorCount) = true := by decide +kernel
theorem hkX6_errorCount_1 : tX6_errorCount_1.all (mchk 8 false ((Option.some Jvm.ClassFile.FieldType.int)) cX6_errorCount) = true := by decide +kernel
theorem htX6_errorCount : mTC 8 false ((Option.some Jvm.ClassFile.FieldType.int)) cX6_errorCount tX6_errorCount := mTC_cons hkX6_errorCount_0 (mTC_cons hkX6_errorCount_1 (mTC_nil))
theorem hkX6_digest_0 : tX6_digest_0.all (mchk 8 false ((Option.some Jvm.ClassFile.FieldType.long)) cX6_digest) = true := by decide +kernel
theorem hkX6_digest_1 : tX6_digest_1.all (mchk 8 false ((Option.some Jvm.ClassFile.FieldType.long)) cX6_digest) = true := by decide +kernel
theorem hkX6_digest_2 : tX6_digest_2.all (mchk 8 false ((Option.some Jvm.ClassFile.FieldType.long)) cX6_digest) = true := by decide +kernel
theorem hkX6_digest_3 : tX6_digest_3.all (mchk 8 false ((Option.some Jvm.ClassFile.FieldType.long)) cX6_digest) = true := by decide +kernel
theorem htX6_digest : mTC 8 false ((Option.some Jvm.ClassFile.FieldType.long)) cX6_digest tX6_digest := mTC_cons hkX6_digest_0 (mTC_cons hkX6_digest_1 (mTC_cons hkX6_digest_2 (mTC_cons hkX6_digest_3 (mTC_nil))))
theorem hkX6_outside_0 : tX6_outside_0.all (mchk 8 false ((Option.some Jvm.ClassFile.FieldType.boolean)) cX6_outside) = true := by decide +kernel
theorem htX6_outside : mTC 8 false ((Option.some Jvm.ClassFile.FieldType.boolean)) cX6_outside tX6_outside := mTC_cons hkX6_outside_0 (mTC_nil)
theorem hkX6_isError_0 : tX6_isError_0.all (mchk 8 false ((Option.some Jvm.ClassFile.FieldType.boolean)) cX6_isError) = true := by decide +kernel
theorem hkX6_isError_1 : tX6_isError_1.all (mchk 8 false ((Option.some Jvm.ClassFile.FieldType.boolean)) cX6_isError) = true := by decide +kernel
theorem htX6_isError : mTC 8 false ((Option.some Jvm.ClassFile.FieldType.boolean)) cX6_isError tX6_isError := mTC_cons hkX6_isError_0 (mTC_cons hkX6_isError_1 (mTC_nil))
theorem hkX6_counted_0 : tX6_counted_0.all (mchk 8 false ((Option.some Jvm.ClassFile.FieldType.int)) cX6_counted) = true := by decide +kernel
theorem hkX6_counted_1 : tX6_counted_1.all (mchk 8 false ((Option.some Jvm.ClassFile.FieldType.int)) cX6_counted) = true := by decide +kernel
theorem htX6_counted : mTC 8 false ((Option.some Jvm.ClassFile.FieldType.int)) cX6_counted tX6_counted := mTC_cons hkX6_counted_0 (mTC_cons hkX6_counted_1 (mTC_nil))
theorem hkX6_isTarget_0 : tX6_isTarget_0.all (mchk 8 false ((Option.some Jvm.ClassFile.FieldType.boolean)) cX6_isTarget) = true := by decide +kernel
theorem hkX6_isTarget_1 : tX6_isTarget_1.all (mchk 8 false ((Option.some Jvm.ClassFile.FieldType.boolean)) cX6_isTarget) = true := by decide +kernel
theorem htX6_isTarget : mTC 8 false ((Option.some Jvm.ClassFile.FieldType.boolean)) cX6_isTarget tX6_isTarget := mTC_cons hkX6_isTarget_0 (mTC_cons hkX6_isTarget_1 (mTC_nil))
theorem hkX6_storeInField_0 : tX6_storeInField_0.all (mchk 8 false ((Option.some Jvm.ClassFile.FieldType.int)) cX6_storeInField) = true := by decide +kernel
theorem hkX6_storeInField_1 : tX6_storeInField_1.all (mchk 8 false ((Option.some Jvm.ClassFile.FieldType.int)) cX6_storeInField) = true := by decide +kernel
theorem hkX6_storeInField_2 : tX6_storeInField_2.all (mchk 8 false ((Option.some Jvm.ClassFile.FieldType.int)) cX6_storeInField) = true := by decide +kernel
theorem hkX6_storeInField_3 : tX6_storeInField_3.all (mchk 8 false ((Option.some Jvm.ClassFile.FieldType.int)) cX6_storeInField) = true := by decide +kernel
theorem htX6_storeInField : mTC 8 false ((Option.some Jvm.ClassFile.FieldType.int)) cX6_storeInField tX6_storeInField := mTC_cons hkX6_storeInField_0 (mTC_cons hkX6_storeInField_1 (mTC_cons hkX6_storeInField_2 (mTC_cons hkX6_storeInField_3 (mTC_nil))))
theorem hkX6_storeInRoot_0 : tX6_storeInRoot_0.all (mchk 8 false ((Option.some Jvm.ClassFile.FieldType.int)) cX6_storeInRoot) = true := by decide +kernel
theorem hkX6_storeInRoot_1 : tX6_storeInRoot_1.all (mchk 8 false ((Option.some Jvm.ClassFile.FieldType.int)) cX6_storeInRoot) = true := by decide +kernel
theorem hkX6_storeInRoot_2 : tX6_storeInRoot_2.all (mchk 8 false ((Option.some Jvm.ClassFile.FieldType.int)) cX6_storeInRoot) = true := by decide +kernel
theorem hkX6_storeInRoot_3 : tX6_storeInRoot_3.all (mchk 8 false ((Option.some Jvm.ClassFile.FieldType.int)) cX6_storeInRoot) = true := by decide +kernel
theorem htX6_storeInRoot : mTC 8 false ((Option.some Jvm.ClassFile.FieldType.int)) cX6_storeInRoot tX6_storeInRoot := mTC_cons hkX6_storeInRoot_0 (mTC_cons hkX6_storeInRoot_1 (mTC_cons hkX6_storeInRoot_2 (mTC_cons hkX6_storeInRoot_3 (mTC_nil))))
theorem hkX6_execute_0 : tX6_execute_0.all (mchk 8 false ((Option.some Jvm.ClassFile.FieldType.int)) cX6_execute) = true := by decide +kernel
theorem hkX6_execute_1 : tX6_execute_1.all (mchk 8 false ((Option.some Jvm.ClassFile.FieldType.int)) cX6_execute) = true := by decide +kernel
theorem hkX6_execute_2 : tX6_execute_2.all (mchk 8 false ((Option.some Jvm.ClassFile.FieldType.int)) cX6_execute) = true := by decide +kernel
theorem hkX6_execute_3 : tX6_execute_3.all (mchk 8 false ((Option.some Jvm.ClassFile.FieldType.int)) cX6_execute) = true := by decide +kernel
theorem hkX6_execute_4 : tX6_execute_4.all (mchk 8 false ((Option.some Jvm.ClassFile.FieldType.int)) cX6_execute) = true := by decide +kernel
theorem hkX6_execute_5 : tX6_execute_5.all (mchk 8 false ((Option.some Jvm.ClassFile.FieldType.int)) cX6_execute) = true := by decide +kernel
theorem htX6_execute : mTC 8 false ((Option.some Jvm.ClassFile.FieldType.int)) cX6_execute tX6_execute := mTC_cons hkX6_execute_0 (mTC_cons hkX6_execute_1 (mTC_cons hkX6_execute_2 (mTC_cons hkX6_execute_3 (mTC_cons hkX6_execute_4 (mTC_cons hkX6_execute_5 (mTC_nil))))))
theorem hkX6_description_0 : tX6_description_0.all (mchk 8 false ((Option.some (Jvm.ClassFile.FieldType.object "java/lang/String"))) cX6_description) = true := by decide +kernel
theorem hkX6_description_1 : tX6_description_1.all (mchk 8 false ((Option.some (Jvm.ClassFile.FieldType.object "java/lang/String"))) cX6_description) = true := by decide +kernel
theorem hkX6_description_2 : tX6_description_2.all (mchk 8 false ((Option.some (Jvm.ClassFile.FieldType.object "java/lang/String"))) cX6_description) = true := by decide +kernel
theorem hkX6_description_3 : tX6_description_3.all (mchk 8 false ((Option.some (Jvm.ClassFile.FieldType.object "java/lang/String"))) cX6_description) = true := by decide +kernel
theorem hkX6_description_4 : tX6_description_4.all (mchk 8 false ((Option.some (Jvm.ClassFile.FieldType.object "java/lang/String"))) cX6_description) = true := by decide +kernel
theorem hkX6_description_5 : tX6_description_5.all (mchk 8 false ((Option.some (Jvm.ClassFile.FieldType.object "java/lang/String"))) cX6_description) = true := by decide +kernel
theorem hkX6_description_6 : tX6_description_6.all (mchk 8 false ((Option.some (Jvm.ClassFile.FieldType.object "java/lang/String"))) cX6_description) = true := by decide +kernel
theorem hkX6_description_7 : tX6_description_7.all (mchk 8 false ((Option.some (Jvm.ClassFile.FieldType.object "java/lang/String"))) cX6_description) = true := by decide +kernel
theorem htX6_description : mTC 8 false ((Option.some (Jvm.ClassFile.FieldType.object "java/lang/String"))) cX6_description tX6_description := mTC_cons hkX6_description_0 (mTC_cons hkX6_description_1 (mTC_cons hkX6_description_2 (mTC_cons hkX6_description_3 (mTC_cons hkX6_description_4 (mTC_cons hkX6_description_5 (mTC_cons hkX6_description_6 (mTC_cons hkX6_description_7 (mTC_nil))))))))
theorem hkX6_mixed_0 : tX6_mixed_0.all (mchk 8 false ((Option.some Jvm.ClassFile.FieldType.long)) cX6_mixed) = true := by decide +kernel
theorem htX6_mixed : mTC 8 false ((Option.some Jvm.ClassFile.FieldType.long)) cX6_mixed tX6_mixed := mTC_cons hkX6_mixed_0 (mTC_nil)
theorem hkX6_digestOfCounters_0 : tX6_digestOfCounters_0.all (mchk 8 false ((Option.some Jvm.ClassFile.FieldType.long)) cX6_digestOfCounters) = true := by decide +kernel
theorem hkX6_digestOfCounters_1 : tX6_digestOfCounters_1.all (mchk 8 false ((Option.some Jvm.ClassFile.FieldType.long)) cX6_digestOfCounters) = true := by decide +kernel
theorem hkX6_digestOfCounters_2 : tX6_digestOfCounters_2.all (mchk 8 false ((Option.some Jvm.ClassFile.FieldType.long)) cX6_digestOfCounters) = true := by decide +kernel
theorem hkX6_digestOfCounters_3 : tX6_digestOfCounters_3.all (mchk 8 false ((Option.some Jvm.ClassFile.FieldType.long)) cX6_digestOfCounters) = true := by decide +kernel
theorem hkX6_digestOfCounters_4 : tX6_digestOfCounters_4.all (mchk 8 false ((Option.some Jvm.ClassFile.FieldType.long)) cX6_digestOfCounters) = true := by decide +kernel
theorem hkX6_digestOfCounters_5 : tX6_digestOfCounters_5.all (mchk 8 false ((Option.some Jvm.ClassFile.FieldType.long)) cX6_digestOfCounters) = true := by decide +kernel
theorem hkX6_digestOfCounters_6 : tX6_digestOfCounters_6.all (mchk 8 false ((Option.some Jvm.ClassFile.FieldType.long)) cX6_digestOfCounters) = true := by decide +kernel
theorem hkX6_digestOfCounters_7 : tX6_digestOfCounters_7.all (mchk 8 false ((Option.some Jvm.ClassFile.FieldType.long)) cX6_digestOfCounters) = true := by decide +kernel
theorem hkX6_digestOfCounters_8 : tX6_digestOfCounters_8.all (mchk 8 false ((Option.some Jvm.ClassFile.FieldType.long)) cX6_digestOfCounters) = true := by decide +kernel
theorem htX6_digestOfCounters : mTC 8 false ((Option.some Jvm.ClassFile.FieldType.long)) cX6_digestOfCounters tX6_digestOfCounters := mTC_cons hkX6_digestOfCounters_0 (mTC_cons hkX6_digestOfCounters_1 (mTC_cons hkX6_digestOfCounters_2 (mTC_cons hkX6_digestOfCounters_3 (mTC_cons hkX6_digestOfCounters_4 (mTC_cons hkX6_digestOfCounters_5 (mTC_cons hkX6_digestOfCounters_6 (mTC_cons hkX6_digestOfCounters_7 (mTC_cons hkX6_digestOfCounters_8 (mTC_nil)))))))))
theorem hkX6_digestOfGenerations_0 : tX6_digestOfGenerations_0.all (mchk 8 false ((Option.some Jvm.ClassFile.FieldType.long)) cX6_digestOfGenerations) = true := by decide +kernel
theorem hkX6_digestOfGenerations_1 : tX6_digestOfGenerations_1.all (mchk 8 false ((Option.some Jvm.ClassFile.FieldType.long)) cX6_digestOfGenerations) = true := by decide +kernel
theorem hkX6_digestOfGenerations_2 : tX6_digestOfGenerations_2.all (mchk 8 false ((Option.some Jvm.ClassFile.FieldType.long)) cX6_digestOfGenerations) = true := by decide +kernel
theorem hkX6_digestOfGenerations_3 : tX6_digestOfGenerations_3.all (mchk 8 false ((Option.some Jvm.ClassFile.FieldType.long)) cX6_digestOfGenerations) = true := by decide +kernel
theorem htX6_digestOfGenerations : mTC 8 false ((Option.some Jvm.ClassFile.FieldType.long)) cX6_digestOfGenerations tX6_digestOfGenerations := mTC_cons hkX6_digestOfGenerations_0 (mTC_cons hkX6_digestOfGenerations_1 (mTC_cons hkX6_digestOfGenerations_2 (mTC_cons hkX6_digestOfGenerations_3 (mTC_nil))))
theorem hkX6_digestOfList_0 : tX6_digestOfList_0.all (mchk 8 false ((Option.some Jvm.ClassFile.FieldType.long)) cX6_digestOfList) = true := by decide +kernel
theorem hkX6_digestOfList_1 : tX6_digestOfList_1.all (mchk 8 false ((Option.some Jvm.ClassFile.FieldType.long)) cX6_digestOfList) = true := by decide +kernel
theorem hkX6_digestOfList_2 : tX6_digestOfList_2.all (mchk 8 false ((Option.some Jvm.ClassFile.FieldType.long)) cX6_digestOfList) = true := by decide +kernel
theorem htX6_digestOfList : mTC 8 false ((Option.some Jvm.ClassFile.FieldType.long)) cX6_digestOfList tX6_digestOfList := mTC_cons hkX6_digestOfList_0 (mTC_cons hkX6_digestOfList_1 (mTC_cons hkX6_digestOfList_2 (mTC_nil)))
theorem hkX6_digestOfObject_0 : tX6_digestOfObject_0.all (mchk 8 false ((Option.some Jvm.ClassFile.FieldType.long)) cX6_digestOfObject) = true := by decide +kernel
theorem hkX6_digestOfObject_1 : tX6_digestOfObject_1.all (mchk 8 false ((Option.some Jvm.ClassFile.FieldType.long)) cX6_digestOfObject) = true := by decide +kernel
theorem hkX6_digestOfObject_2 : tX6_digestOfObject_2.all (mchk 8 false ((Option.some Jvm.ClassFile.FieldType.long)) cX6_digestOfObject) = true := by decide +kernel
theorem hkX6_digestOfObject_3 : tX6_digestOfObject_3.all (mchk 8 false ((Option.some Jvm.ClassFile.FieldType.long)) cX6_digestOfObject) = true := by decide +kernel
theorem hkX6_digestOfObject_4 : tX6_digestOfObject_4.all (mchk 8 false ((Option.some Jvm.ClassFile.FieldType.long)) cX6_digestOfObject) = true := by decide +kernel
theorem hkX6_digestOfObject_5 : tX6_digestOfObject_5.all (mchk 8 false ((Option.some Jvm.ClassFile.FieldType.long)) cX6_digestOfObject) = true := by decide +kernel
theorem hkX6_digestOfObject_6 : tX6_digestOfObject_6.all (mchk 8 false ((Option.some Jvm.ClassFile.FieldType.long)) cX6_digestOfObject) = true := by decide +kernel
theorem htX6_digestOfObject : mTC 8 false ((Option.some Jvm.ClassFile.FieldType.long)) cX6_digestOfObject tX6_digestOfObject := mTC_cons hkX6_digestOfObject_0 (mTC_cons hkX6_digestOfObject_1 (mTC_cons hkX6_digestOfObject_2 (mTC_cons hkX6_digestOfObject_3 (mTC_cons hkX6_digestOfObject_4 (mTC_cons hkX6_digestOfObject_5 (mTC_cons hkX6_digestOfObject_6 (mTC_nil)))))))
theorem hkJ7_fill_53178_0 : tJ7_fill_53178_0.all (mchk 9 false ((Option.none : Option Jvm.ClassFile.FieldType)) cJ7_fill_53178) = true := by decide +kernel
theorem hkJ7_fill_53178_1 : tJ7_fill_53178_1.all (mchk 9 false ((Option.none : Option Jvm.ClassFile.FieldType)) cJ7_fill_53178) = true := by decide +kernel
theorem htJ7_fill_53178 : mTC 9 false ((Option.none : Option Jvm.ClassFile.FieldType)) cJ7_fill_53178 tJ7_fill_53178 := mTC_cons hkJ7_fill_53178_0 (mTC_cons hkJ7_fill_53178_1 (mTC_nil))
theorem hkJ7_copyOf_9075b_0 : tJ7_copyOf_9075b_0.all (mchk 9 false ((Option.some (Jvm.ClassFile.FieldType.array Jvm.ClassFile.FieldType.byte))) cJ7_copyOf_9075b) = true := by decide +kernel
theorem hkJ7_copyOf_9075b_1 : tJ7_copyOf_9075b_1.all (mchk 9 false ((Option.some (Jvm.ClassFile.FieldType.array Jvm.ClassFile.FieldType.byte))) cJ7_copyOf_9075b) = true := by decide +kernel
theorem hkJ7_copyOf_9075b_2 : tJ7_copyOf_9075b_2.all (mchk 9 false ((Option.some (Jvm.ClassFile.FieldType.array Jvm.ClassFile.FieldType.byte))) cJ7_copyOf_9075b) = true := by decide +kernel
theorem htJ7_copyOf_9075b : mTC 9 false ((Option.some (Jvm.ClassFile.FieldType.array Jvm.ClassFile.FieldType.byte))) cJ7_copyOf_9075b tJ7_copyOf_9075b := mTC_cons hkJ7_copyOf_9075b_0 (mTC_cons hkJ7_copyOf_9075b_1 (mTC_cons hkJ7_copyOf_9075b_2 (mTC_nil)))
theorem hkJ7_checkLength_df160_0 : tJ7_checkLength_df160_0.all (mchk 9 false ((Option.none : Option Jvm.ClassFile.FieldType)) cJ7_checkLength_df160) = true := by decide +kernel
theorem htJ7_checkLength_df160 : mTC 9 false ((Option.none : Option Jvm.ClassFile.FieldType)) cJ7_checkLength_df160 tJ7_checkLength_df160 := mTC_cons hkJ7_checkLength_df160_0 (mTC_nil)
theorem hkJ7_copyOfRange_39247_0 : tJ7_copyOfRange_39247_0.all (mchk 9 false ((Option.some (Jvm.ClassFile.FieldType.array Jvm.ClassFile.FieldType.byte))) cJ7_copyOfRange_39247) = true := by decide +kernel
theorem hkJ7_copyOfRange_39247_1 : tJ7_copyOfRange_39247_1.all (mchk 9 false ((Option.some (Jvm.ClassFile.FieldType.array Jvm.ClassFile.FieldType.byte))) cJ7_copyOfRange_39247) = true := by decide +kernel
theorem htJ7_copyOfRange_39247 : mTC 9 false ((Option.some (Jvm.ClassFile.FieldType.array Jvm.ClassFile.FieldType.byte))) cJ7_copyOfRange_39247 tJ7_copyOfRange_39247 := mTC_cons hkJ7_copyOfRange_39247_0 (mTC_cons hkJ7_copyOfRange_39247_1 (mTC_nil))
theorem hkJ7_copyOfRangeByte_39247_0 : tJ7_copyOfRangeByte_39247_0.all (mchk 9 false ((Option.some (Jvm.ClassFile.FieldType.array Jvm.ClassFile.FieldType.byte))) cJ7_copyOfRangeByte_39247) = true := by decide +kernel
theorem hkJ7_copyOfRangeByte_39247_1 : tJ7_copyOfRangeByte_39247_1.all (mchk 9 false ((Option.some (Jvm.ClassFile.FieldType.array Jvm.ClassFile.FieldType.byte))) cJ7_copyOfRangeByte_39247) = true := by decide +kernel
theorem hkJ7_copyOfRangeByte_39247_2 : tJ7_copyOfRangeByte_39247_2.all (mchk 9 false ((Option.some (Jvm.ClassFile.FieldType.array Jvm.ClassFile.FieldType.byte))) cJ7_copyOfRangeByte_39247) = true := by decide +kernel
theorem htJ7_copyOfRangeByte_39247 : mTC 9 false ((Option.some (Jvm.ClassFile.FieldType.array Jvm.ClassFile.FieldType.byte))) cJ7_copyOfRangeByte_39247 tJ7_copyOfRangeByte_39247 := mTC_cons hkJ7_copyOfRangeByte_39247_0 (mTC_cons hkJ7_copyOfRangeByte_39247_1 (mTC_cons hkJ7_copyOfRangeByte_39247_2 (mTC_nil)))
theorem hkJ8_newLength_cabcc_0 : tJ8_newLength_cabcc_0.all (mchk 10 false ((Option.some Jvm.ClassFile.FieldType.int)) cJ8_newLength_cabcc) = true := by decide +kernel
theorem hkJ8_newLength_cabcc_1 : tJ8_newLength_cabcc_1.all (mchk 10 false ((Option.some Jvm.ClassFile.FieldType.int)) cJ8_newLength_cabcc) = true := by decide +kernel
theorem htJ8_newLength_cabcc : mTC 10 false ((Option.some Jvm.ClassFile.FieldType.int)) cJ8_newLength_cabcc tJ8_newLength_cabcc := mTC_cons hkJ8_newLength_cabcc_0 (mTC_cons hkJ8_newLength_cabcc_1 (mTC_nil))
theorem hkJ3_checkIndex_8e157_0 : tJ3_checkIndex_8e157_0.all (mchk 11 false ((Option.some Jvm.ClassFile.FieldType.int)) cJ3_checkIndex_8e157) = true := by decide +kernel
theorem htJ3_checkIndex_8e157 : mTC 11 false ((Option.some Jvm.ClassFile.FieldType.int)) cJ3_checkIndex_8e157 tJ3_checkIndex_8e157 := mTC_cons hkJ3_checkIndex_8e157_0 (mTC_nil)
theorem hkJ0_checkIndex_df160_0 : tJ0_checkIndex_df160_0.all (mchk 12 false ((Option.none : Option Jvm.ClassFile.FieldType)) cJ0_checkIndex_df160) = true := by decide +kernel
theorem htJ0_checkIndex_df160 : mTC 12 false ((Option.none : Option Jvm.ClassFile.FieldType)) cJ0_checkIndex_df160 tJ0_checkIndex_df160 := mTC_cons hkJ0_checkIndex_df160_0 (mTC_nil)
theorem hkJ1_charAt_3b067_0 : tJ1_charAt_3b067_0.all (mchk 13 false ((Option.some Jvm.ClassFile.FieldType.char)) cJ1_charAt_3b067) = true := by decide +kernel
theorem hkJ1_charAt_3b067_1 : tJ1_charAt_3b067_1.all (mchk 13 false ((Option.some Jvm.ClassFile.FieldType.char)) cJ1_charAt_3b067) = true := by decide +kernel
theorem htJ1_charAt_3b067 : mTC 13 false ((Option.some Jvm.ClassFile.FieldType.char)) cJ1_charAt_3b067 tJ1_charAt_3b067 := mTC_cons hkJ1_charAt_3b067_0 (mTC_cons hkJ1_charAt_3b067_1 (mTC_nil))
theorem hkJ1_canEncode_fc78d_0 : tJ1_canEncode_fc78d_0.all (mchk 13 false ((Option.some Jvm.ClassFile.FieldType.boolean)) cJ1_canEncode_fc78d) = true := by decide +kernel
theorem htJ1_canEncode_fc78d : mTC 13 false ((Option.some Jvm.ClassFile.FieldType.boolean)) cJ1_canEncode_fc78d tJ1_canEncode_fc78d := mTC_cons hkJ1_canEncode_fc78d_0 (mTC_nil)
theorem hkJ0_coder_7d493_0 : tJ0_coder_7d493_0.all (mchk 12 false ((Option.some Jvm.ClassFile.FieldType.byte)) cJ0_coder_7d493) = true := by decide +kernel
theorem htJ0_coder_7d493 : mTC 12 false ((Option.some Jvm.ClassFile.FieldType.byte)) cJ0_coder_7d493 tJ0_coder_7d493 := mTC_cons hkJ0_coder_7d493_0 (mTC_nil)
theorem hkJ0_isLatin1_aae02_0 : tJ0_isLatin1_aae02_0.all (mchk 12 false ((Option.some Jvm.ClassFile.FieldType.boolean)) cJ0_isLatin1_aae02) = true := by decide +kernel
theorem htJ0_isLatin1_aae02 : mTC 12 false ((Option.some Jvm.ClassFile.FieldType.boolean)) cJ0_isLatin1_aae02 tJ0_isLatin1_aae02 := mTC_cons hkJ0_isLatin1_aae02_0 (mTC_nil)
theorem hkJ0_length_8abf5_0 : tJ0_length_8abf5_0.all (mchk 12 false ((Option.some Jvm.ClassFile.FieldType.int)) cJ0_length_8abf5) = true := by decide +kernel
theorem htJ0_length_8abf5 : mTC 12 false ((Option.some Jvm.ClassFile.FieldType.int)) cJ0_length_8abf5 tJ0_length_8abf5 := mTC_cons hkJ0_length_8abf5_0 (mTC_nil)
theorem hkJ0_charAt_5068e_0 : tJ0_charAt_5068e_0.all (mchk 12 false ((Option.some Jvm.ClassFile.FieldType.char)) cJ0_charAt_5068e) = true := by decide +kernel
theorem hkJ0_charAt_5068e_1 : tJ0_charAt_5068e_1.all (mchk 12 false ((Option.some Jvm.ClassFile.FieldType.char)) cJ0_charAt_5068e) = true := by decide +kernel
theorem htJ0_charAt_5068e : mTC 12 false ((Option.some Jvm.ClassFile.FieldType.char)) cJ0_charAt_5068e tJ0_charAt_5068e := mTC_cons hkJ0_charAt_5068e_0 (mTC_cons hkJ0_charAt_5068e_1 (mTC_nil))
theorem hkJ0_getBytes_840e7_0 : tJ0_getBytes_840e7_0.all (mchk 12 false ((Option.none : Option Jvm.ClassFile.FieldType)) cJ0_getBytes_840e7) = true := by decide +kernel
theorem hkJ0_getBytes_840e7_1 : tJ0_getBytes_840e7_1.all (mchk 12 false ((Option.none : Option Jvm.ClassFile.FieldType)) cJ0_getBytes_840e7) = true := by decide +kernel
theorem hkJ0_getBytes_840e7_2 : tJ0_getBytes_840e7_2.all (mchk 12 false ((Option.none : Option Jvm.ClassFile.FieldType)) cJ0_getBytes_840e7) = true := by decide +kernel
theorem htJ0_getBytes_840e7 : mTC 12 false ((Option.none : Option Jvm.ClassFile.FieldType)) cJ0_getBytes_840e7 tJ0_getBytes_840e7 := mTC_cons hkJ0_getBytes_840e7_0 (mTC_cons hkJ0_getBytes_840e7_1 (mTC_cons hkJ0_getBytes_840e7_2 (mTC_nil)))
theorem hkJ6_stringSize_0f7a4_0 : tJ6_stringSize_0f7a4_0.all (mchk 14 false ((Option.some Jvm.ClassFile.FieldType.int)) cJ6_stringSize_0f7a4) = true := by decide +kernel
theorem hkJ6_stringSize_0f7a4_1 : tJ6_stringSize_0f7a4_1.all (mchk 14 false ((Option.some Jvm.ClassFile.FieldType.int)) cJ6_stringSize_0f7a4) = true := by decide +kernel
theorem hkJ6_stringSize_0f7a4_2 : tJ6_stringSize_0f7a4_2.all (mchk 14 false ((Option.some Jvm.ClassFile.FieldType.int)) cJ6_stringSize_0f7a4) = true := by decide +kernel
theorem hkJ6_stringSize_0f7a4_3 : tJ6_stringSize_0f7a4_3.all (mchk 14 false ((Option.some Jvm.ClassFile.FieldType.int)) cJ6_stringSize_0f7a4) = true := by decide +kernel
theorem htJ6_stringSize_0f7a4 : mTC 14 false ((Option.some Jvm.ClassFile.FieldType.int)) cJ6_stringSize_0f7a4 tJ6_stringSize_0f7a4 := mTC_cons hkJ6_stringSize_0f7a4_0 (mTC_cons hkJ6_stringSize_0f7a4_1 (mTC_cons hkJ6_stringSize_0f7a4_2 (mTC_cons hkJ6_stringSize_0f7a4_3 (mTC_nil))))
theorem hkJ6_getChars_ba4f3_0 : tJ6_getChars_ba4f3_0.all (mchk 14 false ((Option.some Jvm.ClassFile.FieldType.int)) cJ6_getChars_ba4f3) = true := by decide +kernel
theorem hkJ6_getChars_ba4f3_1 : tJ6_getChars_ba4f3_1.all (mchk 14 false ((Option.some Jvm.ClassFile.FieldType.int)) cJ6_getChars_ba4f3) = true := by decide +kernel
theorem hkJ6_getChars_ba4f3_2 : tJ6_getChars_ba4f3_2.all (mchk 14 false ((Option.some Jvm.ClassFile.FieldType.int)) cJ6_getChars_ba4f3) = true := by decide +kernel
theorem hkJ6_getChars_ba4f3_3 : tJ6_getChars_ba4f3_3.all (mchk 14 false ((Option.some Jvm.ClassFile.FieldType.int)) cJ6_getChars_ba4f3) = true := by decide +kernel
theorem hkJ6_getChars_ba4f3_4 : tJ6_getChars_ba4f3_4.all (mchk 14 false ((Option.some Jvm.ClassFile.FieldType.int)) cJ6_getChars_ba4f3) = true := by decide +kernel
theorem hkJ6_getChars_ba4f3_5 : tJ6_getChars_ba4f3_5.all (mchk 14 false ((Option.some Jvm.ClassFile.FieldType.int)) cJ6_getChars_ba4f3) = true := by decide +kernel
theorem hkJ6_getChars_ba4f3_6 : tJ6_getChars_ba4f3_6.all (mchk 14 false ((Option.some Jvm.ClassFile.FieldType.int)) cJ6_getChars_ba4f3) = true := by decide +kernel
theorem hkJ6_getChars_ba4f3_7 : tJ6_getChars_ba4f3_7.all (mchk 14 false ((Option.some Jvm.ClassFile.FieldType.int)) cJ6_getChars_ba4f3) = true := by decide +kernel
theorem htJ6_getChars_ba4f3 : mTC 14 false ((Option.some Jvm.ClassFile.FieldType.int)) cJ6_getChars_ba4f3 tJ6_getChars_ba4f3 := mTC_cons hkJ6_getChars_ba4f3_0 (mTC_cons hkJ6_getChars_ba4f3_1 (mTC_cons hkJ6_getChars_ba4f3_2 (mTC_cons hkJ6_getChars_ba4f3_3 (mTC_cons hkJ6_getChars_ba4f3_4 (mTC_cons hkJ6_getChars_ba4f3_5 (mTC_cons hkJ6_getChars_ba4f3_6 (mTC_cons hkJ6_getChars_ba4f3_7 (mTC_nil))))))))
theorem hkJ5_init_d00df_0 : tJ5_init_d00df_0.all (mchk 15 true ((Option.none : Option Jvm.ClassFile.FieldType)) cJ5_init_d00df) = true := by decide +kernel
theorem hkJ5_init_d00df_1 : tJ5_init_d00df_1.all (mchk 15 true ((Option.none : Option Jvm.ClassFile.FieldType)) cJ5_init_d00df) = true := by decide +kernel
theorem htJ5_init_d00df : mTC 15 true ((Option.none : Option Jvm.ClassFile.FieldType)) cJ5_init_d00df tJ5_init_d00df := mTC_cons hkJ5_init_d00df_0 (mTC_cons hkJ5_init_d00df_1 (mTC_nil))
theorem hkJ5_length_8abf5_0 : tJ5_length_8abf5_0.all (mchk 15 false ((Option.some Jvm.ClassFile.FieldType.int)) cJ5_length_8abf5) = true := by decide +kernel
theorem htJ5_length_8abf5 : mTC 15 false ((Option.some Jvm.ClassFile.FieldType.int)) cJ5_length_8abf5 tJ5_length_8abf5 := mTC_cons hkJ5_length_8abf5_0 (mTC_nil)
theorem hkJ5_isLatin1_aae02_0 : tJ5_isLatin1_aae02_0.all (mchk 15 false ((Option.some Jvm.ClassFile.FieldType.boolean)) cJ5_isLatin1_aae02) = true := by decide +kernel
