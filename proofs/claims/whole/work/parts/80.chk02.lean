theorem hkX7_readNumber_6 : tX7_readNumber_6.all (mchk 1 false ((Option.some Jvm.ClassFile.FieldType.int)) cX7_readNumber) = true := by decide +kernel
theorem htX7_readNumber : mTC 1 false ((Option.some Jvm.ClassFile.FieldType.int)) cX7_readNumber tX7_readNumber := mTC_cons hkX7_readNumber_0 (mTC_cons hkX7_readNumber_1 (mTC_cons hkX7_readNumber_2 (mTC_cons hkX7_readNumber_3 (mTC_cons hkX7_readNumber_4 (mTC_cons hkX7_readNumber_5 (mTC_cons hkX7_readNumber_6 (mTC_nil)))))))
theorem hkX7_readTarget_0 : tX7_readTarget_0.all (mchk 1 false ((Option.some Jvm.ClassFile.FieldType.int)) cX7_readTarget) = true := by decide +kernel
theorem hkX7_readTarget_1 : tX7_readTarget_1.all (mchk 1 false ((Option.some Jvm.ClassFile.FieldType.int)) cX7_readTarget) = true := by decide +kernel
theorem hkX7_readTarget_2 : tX7_readTarget_2.all (mchk 1 false ((Option.some Jvm.ClassFile.FieldType.int)) cX7_readTarget) = true := by decide +kernel
theorem htX7_readTarget : mTC 1 false ((Option.some Jvm.ClassFile.FieldType.int)) cX7_readTarget tX7_readTarget := mTC_cons hkX7_readTarget_0 (mTC_cons hkX7_readTarget_1 (mTC_cons hkX7_readTarget_2 (mTC_nil)))
theorem hkX7_readCommand_0 : tX7_readCommand_0.all (mchk 1 false ((Option.none : Option Jvm.ClassFile.FieldType)) cX7_readCommand) = true := by decide +kernel
theorem hkX7_readCommand_1 : tX7_readCommand_1.all (mchk 1 false ((Option.none : Option Jvm.ClassFile.FieldType)) cX7_readCommand) = true := by decide +kernel
theorem hkX7_readCommand_2 : tX7_readCommand_2.all (mchk 1 false ((Option.none : Option Jvm.ClassFile.FieldType)) cX7_readCommand) = true := by decide +kernel
theorem hkX7_readCommand_3 : tX7_readCommand_3.all (mchk 1 false ((Option.none : Option Jvm.ClassFile.FieldType)) cX7_readCommand) = true := by decide +kernel
theorem hkX7_readCommand_4 : tX7_readCommand_4.all (mchk 1 false ((Option.none : Option Jvm.ClassFile.FieldType)) cX7_readCommand) = true := by decide +kernel
theorem hkX7_readCommand_5 : tX7_readCommand_5.all (mchk 1 false ((Option.none : Option Jvm.ClassFile.FieldType)) cX7_readCommand) = true := by decide +kernel
theorem hkX7_readCommand_6 : tX7_readCommand_6.all (mchk 1 false ((Option.none : Option Jvm.ClassFile.FieldType)) cX7_readCommand) = true := by decide +kernel
theorem hkX7_readCommand_7 : tX7_readCommand_7.all (mchk 1 false ((Option.none : Option Jvm.ClassFile.FieldType)) cX7_readCommand) = true := by decide +kernel
theorem hkX7_readCommand_8 : tX7_readCommand_8.all (mchk 1 false ((Option.none : Option Jvm.ClassFile.FieldType)) cX7_readCommand) = true := by decide +kernel
theorem hkX7_readCommand_9 : tX7_readCommand_9.all (mchk 1 false ((Option.none : Option Jvm.ClassFile.FieldType)) cX7_readCommand) = true := by decide +kernel
theorem htX7_readCommand : mTC 1 false ((Option.none : Option Jvm.ClassFile.FieldType)) cX7_readCommand tX7_readCommand := mTC_cons hkX7_readCommand_0 (mTC_cons hkX7_readCommand_1 (mTC_cons hkX7_readCommand_2 (mTC_cons hkX7_readCommand_3 (mTC_cons hkX7_readCommand_4 (mTC_cons hkX7_readCommand_5 (mTC_cons hkX7_readCommand_6 (mTC_cons hkX7_readCommand_7 (mTC_cons hkX7_readCommand_8 (mTC_cons hkX7_readCommand_9 (mTC_nil))))))))))
theorem hkX7_execute_0 : tX7_execute_0.all (mchk 1 false ((Option.some Jvm.ClassFile.FieldType.int)) cX7_execute) = true := by decide +kernel
theorem hkX7_execute_1 : tX7_execute_1.all (mchk 1 false ((Option.some Jvm.ClassFile.FieldType.int)) cX7_execute) = true := by decide +kernel
theorem hkX7_execute_2 : tX7_execute_2.all (mchk 1 false ((Option.some Jvm.ClassFile.FieldType.int)) cX7_execute) = true := by decide +kernel
theorem hkX7_execute_3 : tX7_execute_3.all (mchk 1 false ((Option.some Jvm.ClassFile.FieldType.int)) cX7_execute) = true := by decide +kernel
theorem hkX7_execute_4 : tX7_execute_4.all (mchk 1 false ((Option.some Jvm.ClassFile.FieldType.int)) cX7_execute) = true := by decide +kernel
theorem htX7_execute : mTC 1 false ((Option.some Jvm.ClassFile.FieldType.int)) cX7_execute tX7_execute := mTC_cons hkX7_execute_0 (mTC_cons hkX7_execute_1 (mTC_cons hkX7_execute_2 (mTC_cons hkX7_execute_3 (mTC_cons hkX7_execute_4 (mTC_nil)))))
theorem hkX7_runScript_0 : tX7_runScript_0.all (mchk 1 false ((Option.some Jvm.ClassFile.FieldType.int)) cX7_runScript) = true := by decide +kernel
theorem hkX7_runScript_1 : tX7_runScript_1.all (mchk 1 false ((Option.some Jvm.ClassFile.FieldType.int)) cX7_runScript) = true := by decide +kernel
theorem hkX7_runScript_2 : tX7_runScript_2.all (mchk 1 false ((Option.some Jvm.ClassFile.FieldType.int)) cX7_runScript) = true := by decide +kernel
theorem hkX7_runScript_3 : tX7_runScript_3.all (mchk 1 false ((Option.some Jvm.ClassFile.FieldType.int)) cX7_runScript) = true := by decide +kernel
theorem hkX7_runScript_4 : tX7_runScript_4.all (mchk 1 false ((Option.some Jvm.ClassFile.FieldType.int)) cX7_runScript) = true := by decide +kernel
theorem hkX7_runScript_5 : tX7_runScript_5.all (mchk 1 false ((Option.some Jvm.ClassFile.FieldType.int)) cX7_runScript) = true := by decide +kernel
theorem hkX7_runScript_6 : tX7_runScript_6.all (mchk 1 false ((Option.some Jvm.ClassFile.FieldType.int)) cX7_runScript) = true := by decide +kernel
theorem hkX7_runScript_7 : tX7_runScript_7.all (mchk 1 false ((Option.some Jvm.ClassFile.FieldType.int)) cX7_runScript) = true := by decide +kernel
theorem htX7_runScript : mTC 1 false ((Option.some Jvm.ClassFile.FieldType.int)) cX7_runScript tX7_runScript := mTC_cons hkX7_runScript_0 (mTC_cons hkX7_runScript_1 (mTC_cons hkX7_runScript_2 (mTC_cons hkX7_runScript_3 (mTC_cons hkX7_runScript_4 (mTC_cons hkX7_runScript_5 (mTC_cons hkX7_runScript_6 (mTC_cons hkX7_runScript_7 (mTC_nil))))))))
theorem hkX7_errorCount_0 : tX7_errorCount_0.all (mchk 1 false ((Option.some Jvm.ClassFile.FieldType.int)) cX7_errorCount) = true := by decide +kernel
theorem hkX7_errorCount_1 : tX7_errorCount_1.all (mchk 1 false ((Option.some Jvm.ClassFile.FieldType.int)) cX7_errorCount) = true := by decide +kernel
theorem htX7_errorCount : mTC 1 false ((Option.some Jvm.ClassFile.FieldType.int)) cX7_errorCount tX7_errorCount := mTC_cons hkX7_errorCount_0 (mTC_cons hkX7_errorCount_1 (mTC_nil))
theorem hkX7_add_0 : tX7_add_0.all (mchk 1 false ((Option.none : Option Jvm.ClassFile.FieldType)) cX7_add) = true := by decide +kernel
theorem htX7_add : mTC 1 false ((Option.none : Option Jvm.ClassFile.FieldType)) cX7_add tX7_add := mTC_cons hkX7_add_0 (mTC_nil)
theorem hkX7_addObject_0 : tX7_addObject_0.all (mchk 1 false ((Option.none : Option Jvm.ClassFile.FieldType)) cX7_addObject) = true := by decide +kernel
theorem hkX7_addObject_1 : tX7_addObject_1.all (mchk 1 false ((Option.none : Option Jvm.ClassFile.FieldType)) cX7_addObject) = true := by decide +kernel
theorem hkX7_addObject_2 : tX7_addObject_2.all (mchk 1 false ((Option.none : Option Jvm.ClassFile.FieldType)) cX7_addObject) = true := by decide +kernel
theorem hkX7_addObject_3 : tX7_addObject_3.all (mchk 1 false ((Option.none : Option Jvm.ClassFile.FieldType)) cX7_addObject) = true := by decide +kernel
theorem hkX7_addObject_4 : tX7_addObject_4.all (mchk 1 false ((Option.none : Option Jvm.ClassFile.FieldType)) cX7_addObject) = true := by decide +kernel
theorem hkX7_addObject_5 : tX7_addObject_5.all (mchk 1 false ((Option.none : Option Jvm.ClassFile.FieldType)) cX7_addObject) = true := by decide +kernel
theorem hkX7_addObject_6 : tX7_addObject_6.all (mchk 1 false ((Option.none : Option Jvm.ClassFile.FieldType)) cX7_addObject) = true := by decide +kernel
theorem htX7_addObject : mTC 1 false ((Option.none : Option Jvm.ClassFile.FieldType)) cX7_addObject tX7_addObject := mTC_cons hkX7_addObject_0 (mTC_cons hkX7_addObject_1 (mTC_cons hkX7_addObject_2 (mTC_cons hkX7_addObject_3 (mTC_cons hkX7_addObject_4 (mTC_cons hkX7_addObject_5 (mTC_cons hkX7_addObject_6 (mTC_nil)))))))
theorem hkX7_digest_0 : tX7_digest_0.all (mchk 1 false ((Option.some Jvm.ClassFile.FieldType.long)) cX7_digest) = true := by decide +kernel
theorem hkX7_digest_1 : tX7_digest_1.all (mchk 1 false ((Option.some Jvm.ClassFile.FieldType.long)) cX7_digest) = true := by decide +kernel
theorem hkX7_digest_2 : tX7_digest_2.all (mchk 1 false ((Option.some Jvm.ClassFile.FieldType.long)) cX7_digest) = true := by decide +kernel
theorem hkX7_digest_3 : tX7_digest_3.all (mchk 1 false ((Option.some Jvm.ClassFile.FieldType.long)) cX7_digest) = true := by decide +kernel
theorem hkX7_digest_4 : tX7_digest_4.all (mchk 1 false ((Option.some Jvm.ClassFile.FieldType.long)) cX7_digest) = true := by decide +kernel
theorem hkX7_digest_5 : tX7_digest_5.all (mchk 1 false ((Option.some Jvm.ClassFile.FieldType.long)) cX7_digest) = true := by decide +kernel
theorem hkX7_digest_6 : tX7_digest_6.all (mchk 1 false ((Option.some Jvm.ClassFile.FieldType.long)) cX7_digest) = true := by decide +kernel
theorem hkX7_digest_7 : tX7_digest_7.all (mchk 1 false ((Option.some Jvm.ClassFile.FieldType.long)) cX7_digest) = true := by decide +kernel
theorem hkX7_digest_8 : tX7_digest_8.all (mchk 1 false ((Option.some Jvm.ClassFile.FieldType.long)) cX7_digest) = true := by decide +kernel
theorem hkX7_digest_9 : tX7_digest_9.all (mchk 1 false ((Option.some Jvm.ClassFile.FieldType.long)) cX7_digest) = true := by decide +kernel
theorem hkX7_digest_10 : tX7_digest_10.all (mchk 1 false ((Option.some Jvm.ClassFile.FieldType.long)) cX7_digest) = true := by decide +kernel
theorem hkX7_digest_11 : tX7_digest_11.all (mchk 1 false ((Option.some Jvm.ClassFile.FieldType.long)) cX7_digest) = true := by decide +kernel
theorem hkX7_digest_12 : tX7_digest_12.all (mchk 1 false ((Option.some Jvm.ClassFile.FieldType.long)) cX7_digest) = true := by decide +kernel
theorem hkX7_digest_13 : tX7_digest_13.all (mchk 1 false ((Option.some Jvm.ClassFile.FieldType.long)) cX7_digest) = true := by decide +kernel
theorem htX7_digest : mTC 1 false ((Option.some Jvm.ClassFile.FieldType.long)) cX7_digest tX7_digest := mTC_cons hkX7_digest_0 (mTC_cons hkX7_digest_1 (mTC_cons hkX7_digest_2 (mTC_cons hkX7_digest_3 (mTC_cons hkX7_digest_4 (mTC_cons hkX7_digest_5 (mTC_cons hkX7_digest_6 (mTC_cons hkX7_digest_7 (mTC_cons hkX7_digest_8 (mTC_cons hkX7_digest_9 (mTC_cons hkX7_digest_10 (mTC_cons hkX7_digest_11 (mTC_cons hkX7_digest_12 (mTC_cons hkX7_digest_13 (mTC_nil))))))))))))))
theorem hkX1_init_0 : tX1_init_0.all (mchk 2 true ((Option.none : Option Jvm.ClassFile.FieldType)) cX1_init) = true := by decide +kernel
theorem hkX1_init_1 : tX1_init_1.all (mchk 2 true ((Option.none : Option Jvm.ClassFile.FieldType)) cX1_init) = true := by decide +kernel
theorem htX1_init : mTC 2 true ((Option.none : Option Jvm.ClassFile.FieldType)) cX1_init tX1_init := mTC_cons hkX1_init_0 (mTC_cons hkX1_init_1 (mTC_nil))
theorem hkX1_size_0 : tX1_size_0.all (mchk 2 false ((Option.some Jvm.ClassFile.FieldType.int)) cX1_size) = true := by decide +kernel
theorem htX1_size : mTC 2 false ((Option.some Jvm.ClassFile.FieldType.int)) cX1_size tX1_size := mTC_cons hkX1_size_0 (mTC_nil)
theorem hkX1_at_0 : tX1_at_0.all (mchk 2 false ((Option.some Jvm.ClassFile.FieldType.int)) cX1_at) = true := by decide +kernel
theorem hkX1_at_1 : tX1_at_1.all (mchk 2 false ((Option.some Jvm.ClassFile.FieldType.int)) cX1_at) = true := by decide +kernel
theorem htX1_at : mTC 2 false ((Option.some Jvm.ClassFile.FieldType.int)) cX1_at tX1_at := mTC_cons hkX1_at_0 (mTC_cons hkX1_at_1 (mTC_nil))
theorem hkX1_has_0 : tX1_has_0.all (mchk 2 false ((Option.some Jvm.ClassFile.FieldType.boolean)) cX1_has) = true := by decide +kernel
theorem hkX1_has_1 : tX1_has_1.all (mchk 2 false ((Option.some Jvm.ClassFile.FieldType.boolean)) cX1_has) = true := by decide +kernel
theorem htX1_has : mTC 2 false ((Option.some Jvm.ClassFile.FieldType.boolean)) cX1_has tX1_has := mTC_cons hkX1_has_0 (mTC_cons hkX1_has_1 (mTC_nil))
theorem hkX1_add_0 : tX1_add_0.all (mchk 2 false ((Option.none : Option Jvm.ClassFile.FieldType)) cX1_add) = true := by decide +kernel
theorem hkX1_add_1 : tX1_add_1.all (mchk 2 false ((Option.none : Option Jvm.ClassFile.FieldType)) cX1_add) = true := by decide +kernel
theorem hkX1_add_2 : tX1_add_2.all (mchk 2 false ((Option.none : Option Jvm.ClassFile.FieldType)) cX1_add) = true := by decide +kernel
theorem hkX1_add_3 : tX1_add_3.all (mchk 2 false ((Option.none : Option Jvm.ClassFile.FieldType)) cX1_add) = true := by decide +kernel
theorem htX1_add : mTC 2 false ((Option.none : Option Jvm.ClassFile.FieldType)) cX1_add tX1_add := mTC_cons hkX1_add_0 (mTC_cons hkX1_add_1 (mTC_cons hkX1_add_2 (mTC_cons hkX1_add_3 (mTC_nil))))
theorem hkX1_takeFirst_0 : tX1_takeFirst_0.all (mchk 2 false ((Option.some Jvm.ClassFile.FieldType.int)) cX1_takeFirst) = true := by decide +kernel
theorem htX1_takeFirst : mTC 2 false ((Option.some Jvm.ClassFile.FieldType.int)) cX1_takeFirst tX1_takeFirst := mTC_cons hkX1_takeFirst_0 (mTC_nil)
theorem hkX1_drop_0 : tX1_drop_0.all (mchk 2 false ((Option.none : Option Jvm.ClassFile.FieldType)) cX1_drop) = true := by decide +kernel
theorem hkX1_drop_1 : tX1_drop_1.all (mchk 2 false ((Option.none : Option Jvm.ClassFile.FieldType)) cX1_drop) = true := by decide +kernel
theorem hkX1_drop_2 : tX1_drop_2.all (mchk 2 false ((Option.none : Option Jvm.ClassFile.FieldType)) cX1_drop) = true := by decide +kernel
theorem hkX1_drop_3 : tX1_drop_3.all (mchk 2 false ((Option.none : Option Jvm.ClassFile.FieldType)) cX1_drop) = true := by decide +kernel
theorem htX1_drop : mTC 2 false ((Option.none : Option Jvm.ClassFile.FieldType)) cX1_drop tX1_drop := mTC_cons hkX1_drop_0 (mTC_cons hkX1_drop_1 (mTC_cons hkX1_drop_2 (mTC_cons hkX1_drop_3 (mTC_nil))))
theorem hkX1_clear_0 : tX1_clear_0.all (mchk 2 false ((Option.none : Option Jvm.ClassFile.FieldType)) cX1_clear) = true := by decide +kernel
theorem hkX1_clear_1 : tX1_clear_1.all (mchk 2 false ((Option.none : Option Jvm.ClassFile.FieldType)) cX1_clear) = true := by decide +kernel
theorem htX1_clear : mTC 2 false ((Option.none : Option Jvm.ClassFile.FieldType)) cX1_clear tX1_clear := mTC_cons hkX1_clear_0 (mTC_cons hkX1_clear_1 (mTC_nil))
theorem hkX4_init_0 : tX4_init_0.all (mchk 3 true ((Option.none : Option Jvm.ClassFile.FieldType)) cX4_init) = true := by decide +kernel
theorem hkX4_init_1 : tX4_init_1.all (mchk 3 true ((Option.none : Option Jvm.ClassFile.FieldType)) cX4_init) = true := by decide +kernel
theorem hkX4_init_2 : tX4_init_2.all (mchk 3 true ((Option.none : Option Jvm.ClassFile.FieldType)) cX4_init) = true := by decide +kernel
theorem hkX4_init_3 : tX4_init_3.all (mchk 3 true ((Option.none : Option Jvm.ClassFile.FieldType)) cX4_init) = true := by decide +kernel
theorem htX4_init : mTC 3 true ((Option.none : Option Jvm.ClassFile.FieldType)) cX4_init tX4_init := mTC_cons hkX4_init_0 (mTC_cons hkX4_init_1 (mTC_cons hkX4_init_2 (mTC_cons hkX4_init_3 (mTC_nil))))
theorem hkX4_clear_0 : tX4_clear_0.all (mchk 3 false ((Option.none : Option Jvm.ClassFile.FieldType)) cX4_clear) = true := by decide +kernel
theorem hkX4_clear_1 : tX4_clear_1.all (mchk 3 false ((Option.none : Option Jvm.ClassFile.FieldType)) cX4_clear) = true := by decide +kernel
theorem htX4_clear : mTC 3 false ((Option.none : Option Jvm.ClassFile.FieldType)) cX4_clear tX4_clear := mTC_cons hkX4_clear_0 (mTC_cons hkX4_clear_1 (mTC_nil))
theorem hkX4_allocatedObjects_0 : tX4_allocatedObjects_0.all (mchk 3 false ((Option.some Jvm.ClassFile.FieldType.int)) cX4_allocatedObjects) = true := by decide +kernel
theorem htX4_allocatedObjects : mTC 3 false ((Option.some Jvm.ClassFile.FieldType.int)) cX4_allocatedObjects tX4_allocatedObjects := mTC_cons hkX4_allocatedObjects_0 (mTC_nil)
theorem hkX4_wordsYoung_0 : tX4_wordsYoung_0.all (mchk 3 false ((Option.some Jvm.ClassFile.FieldType.int)) cX4_wordsYoung) = true := by decide +kernel
theorem htX4_wordsYoung : mTC 3 false ((Option.some Jvm.ClassFile.FieldType.int)) cX4_wordsYoung tX4_wordsYoung := mTC_cons hkX4_wordsYoung_0 (mTC_nil)
theorem hkX4_wordsOld_0 : tX4_wordsOld_0.all (mchk 3 false ((Option.some Jvm.ClassFile.FieldType.int)) cX4_wordsOld) = true := by decide +kernel
theorem htX4_wordsOld : mTC 3 false ((Option.some Jvm.ClassFile.FieldType.int)) cX4_wordsOld tX4_wordsOld := mTC_cons hkX4_wordsOld_0 (mTC_nil)
theorem hkX4_oldObjects_0 : tX4_oldObjects_0.all (mchk 3 false ((Option.some Jvm.ClassFile.FieldType.int)) cX4_oldObjects) = true := by decide +kernel
theorem htX4_oldObjects : mTC 3 false ((Option.some Jvm.ClassFile.FieldType.int)) cX4_oldObjects tX4_oldObjects := mTC_cons hkX4_oldObjects_0 (mTC_nil)
theorem hkX4_isLive_0 : tX4_isLive_0.all (mchk 3 false ((Option.some Jvm.ClassFile.FieldType.boolean)) cX4_isLive) = true := by decide +kernel
theorem hkX4_isLive_1 : tX4_isLive_1.all (mchk 3 false ((Option.some Jvm.ClassFile.FieldType.boolean)) cX4_isLive) = true := by decide +kernel
theorem htX4_isLive : mTC 3 false ((Option.some Jvm.ClassFile.FieldType.boolean)) cX4_isLive tX4_isLive := mTC_cons hkX4_isLive_0 (mTC_cons hkX4_isLive_1 (mTC_nil))
theorem hkX4_inNursery_0 : tX4_inNursery_0.all (mchk 3 false ((Option.some Jvm.ClassFile.FieldType.boolean)) cX4_inNursery) = true := by decide +kernel
theorem hkX4_inNursery_1 : tX4_inNursery_1.all (mchk 3 false ((Option.some Jvm.ClassFile.FieldType.boolean)) cX4_inNursery) = true := by decide +kernel
theorem htX4_inNursery : mTC 3 false ((Option.some Jvm.ClassFile.FieldType.boolean)) cX4_inNursery tX4_inNursery := mTC_cons hkX4_inNursery_0 (mTC_cons hkX4_inNursery_1 (mTC_nil))
theorem hkX4_inOldGeneration_0 : tX4_inOldGeneration_0.all (mchk 3 false ((Option.some Jvm.ClassFile.FieldType.boolean)) cX4_inOldGeneration) = true := by decide +kernel
theorem hkX4_inOldGeneration_1 : tX4_inOldGeneration_1.all (mchk 3 false ((Option.some Jvm.ClassFile.FieldType.boolean)) cX4_inOldGeneration) = true := by decide +kernel
theorem htX4_inOldGeneration : mTC 3 false ((Option.some Jvm.ClassFile.FieldType.boolean)) cX4_inOldGeneration tX4_inOldGeneration := mTC_cons hkX4_inOldGeneration_0 (mTC_cons hkX4_inOldGeneration_1 (mTC_nil))
theorem hkX4_ageOf_0 : tX4_ageOf_0.all (mchk 3 false ((Option.some Jvm.ClassFile.FieldType.int)) cX4_ageOf) = true := by decide +kernel
theorem hkX4_ageOf_1 : tX4_ageOf_1.all (mchk 3 false ((Option.some Jvm.ClassFile.FieldType.int)) cX4_ageOf) = true := by decide +kernel
theorem htX4_ageOf : mTC 3 false ((Option.some Jvm.ClassFile.FieldType.int)) cX4_ageOf tX4_ageOf := mTC_cons hkX4_ageOf_0 (mTC_cons hkX4_ageOf_1 (mTC_nil))
theorem hkX4_fieldsOf_0 : tX4_fieldsOf_0.all (mchk 3 false ((Option.some Jvm.ClassFile.FieldType.int)) cX4_fieldsOf) = true := by decide +kernel
theorem hkX4_fieldsOf_1 : tX4_fieldsOf_1.all (mchk 3 false ((Option.some Jvm.ClassFile.FieldType.int)) cX4_fieldsOf) = true := by decide +kernel
theorem htX4_fieldsOf : mTC 3 false ((Option.some Jvm.ClassFile.FieldType.int)) cX4_fieldsOf tX4_fieldsOf := mTC_cons hkX4_fieldsOf_0 (mTC_cons hkX4_fieldsOf_1 (mTC_nil))
theorem hkX4_sizeOf_0 : tX4_sizeOf_0.all (mchk 3 false ((Option.some Jvm.ClassFile.FieldType.int)) cX4_sizeOf) = true := by decide +kernel
theorem hkX4_sizeOf_1 : tX4_sizeOf_1.all (mchk 3 false ((Option.some Jvm.ClassFile.FieldType.int)) cX4_sizeOf) = true := by decide +kernel
theorem htX4_sizeOf : mTC 3 false ((Option.some Jvm.ClassFile.FieldType.int)) cX4_sizeOf tX4_sizeOf := mTC_cons hkX4_sizeOf_0 (mTC_cons hkX4_sizeOf_1 (mTC_nil))
theorem hkX4_colourOf_0 : tX4_colourOf_0.all (mchk 3 false ((Option.some Jvm.ClassFile.FieldType.int)) cX4_colourOf) = true := by decide +kernel
theorem hkX4_colourOf_1 : tX4_colourOf_1.all (mchk 3 false ((Option.some Jvm.ClassFile.FieldType.int)) cX4_colourOf) = true := by decide +kernel
theorem htX4_colourOf : mTC 3 false ((Option.some Jvm.ClassFile.FieldType.int)) cX4_colourOf tX4_colourOf := mTC_cons hkX4_colourOf_0 (mTC_cons hkX4_colourOf_1 (mTC_nil))
theorem hkX4_isWhiteOld_0 : tX4_isWhiteOld_0.all (mchk 3 false ((Option.some Jvm.ClassFile.FieldType.boolean)) cX4_isWhiteOld) = true := by decide +kernel
theorem hkX4_isWhiteOld_1 : tX4_isWhiteOld_1.all (mchk 3 false ((Option.some Jvm.ClassFile.FieldType.boolean)) cX4_isWhiteOld) = true := by decide +kernel
theorem htX4_isWhiteOld : mTC 3 false ((Option.some Jvm.ClassFile.FieldType.boolean)) cX4_isWhiteOld tX4_isWhiteOld := mTC_cons hkX4_isWhiteOld_0 (mTC_cons hkX4_isWhiteOld_1 (mTC_nil))
theorem hkX4_hasField_0 : tX4_hasField_0.all (mchk 3 false ((Option.some Jvm.ClassFile.FieldType.boolean)) cX4_hasField) = true := by decide +kernel
theorem hkX4_hasField_1 : tX4_hasField_1.all (mchk 3 false ((Option.some Jvm.ClassFile.FieldType.boolean)) cX4_hasField) = true := by decide +kernel
theorem htX4_hasField : mTC 3 false ((Option.some Jvm.ClassFile.FieldType.boolean)) cX4_hasField tX4_hasField := mTC_cons hkX4_hasField_0 (mTC_cons hkX4_hasField_1 (mTC_nil))
theorem hkX4_fieldOf_0 : tX4_fieldOf_0.all (mchk 3 false ((Option.some Jvm.ClassFile.FieldType.int)) cX4_fieldOf) = true := by decide +kernel
theorem hkX4_fieldOf_1 : tX4_fieldOf_1.all (mchk 3 false ((Option.some Jvm.ClassFile.FieldType.int)) cX4_fieldOf) = true := by decide +kernel
theorem hkX4_fieldOf_2 : tX4_fieldOf_2.all (mchk 3 false ((Option.some Jvm.ClassFile.FieldType.int)) cX4_fieldOf) = true := by decide +kernel
theorem htX4_fieldOf : mTC 3 false ((Option.some Jvm.ClassFile.FieldType.int)) cX4_fieldOf tX4_fieldOf := mTC_cons hkX4_fieldOf_0 (mTC_cons hkX4_fieldOf_1 (mTC_cons hkX4_fieldOf_2 (mTC_nil)))
theorem hkX4_setField_0 : tX4_setField_0.all (mchk 3 false ((Option.none : Option Jvm.ClassFile.FieldType)) cX4_setField) = true := by decide +kernel
theorem hkX4_setField_1 : tX4_setField_1.all (mchk 3 false ((Option.none : Option Jvm.ClassFile.FieldType)) cX4_setField) = true := by decide +kernel
theorem htX4_setField : mTC 3 false ((Option.none : Option Jvm.ClassFile.FieldType)) cX4_setField tX4_setField := mTC_cons hkX4_setField_0 (mTC_cons hkX4_setField_1 (mTC_nil))
theorem hkX4_refersToYoung_0 : tX4_refersToYoung_0.all (mchk 3 false ((Option.some Jvm.ClassFile.FieldType.boolean)) cX4_refersToYoung) = true := by decide +kernel
theorem hkX4_refersToYoung_1 : tX4_refersToYoung_1.all (mchk 3 false ((Option.some Jvm.ClassFile.FieldType.boolean)) cX4_refersToYoung) = true := by decide +kernel
theorem htX4_refersToYoung : mTC 3 false ((Option.some Jvm.ClassFile.FieldType.boolean)) cX4_refersToYoung tX4_refersToYoung := mTC_cons hkX4_refersToYoung_0 (mTC_cons hkX4_refersToYoung_1 (mTC_nil))
theorem hkX4_create_0 : tX4_create_0.all (mchk 3 false ((Option.some Jvm.ClassFile.FieldType.int)) cX4_create) = true := by decide +kernel
theorem hkX4_create_1 : tX4_create_1.all (mchk 3 false ((Option.some Jvm.ClassFile.FieldType.int)) cX4_create) = true := by decide +kernel
theorem hkX4_create_2 : tX4_create_2.all (mchk 3 false ((Option.some Jvm.ClassFile.FieldType.int)) cX4_create) = true := by decide +kernel
theorem hkX4_create_3 : tX4_create_3.all (mchk 3 false ((Option.some Jvm.ClassFile.FieldType.int)) cX4_create) = true := by decide +kernel
theorem hkX4_create_4 : tX4_create_4.all (mchk 3 false ((Option.some Jvm.ClassFile.FieldType.int)) cX4_create) = true := by decide +kernel
theorem hkX4_create_5 : tX4_create_5.all (mchk 3 false ((Option.some Jvm.ClassFile.FieldType.int)) cX4_create) = true := by decide +kernel
