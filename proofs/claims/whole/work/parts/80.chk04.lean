theorem hkX3_promoteIfRoom_2 : tX3_promoteIfRoom_2.all (mchk 6 false ((Option.none : Option Jvm.ClassFile.FieldType)) cX3_promoteIfRoom) = true := by decide +kernel
theorem htX3_promoteIfRoom : mTC 6 false ((Option.none : Option Jvm.ClassFile.FieldType)) cX3_promoteIfRoom tX3_promoteIfRoom := mTC_cons hkX3_promoteIfRoom_0 (mTC_cons hkX3_promoteIfRoom_1 (mTC_cons hkX3_promoteIfRoom_2 (mTC_nil)))
theorem hkX3_freeOthers_0 : tX3_freeOthers_0.all (mchk 6 false ((Option.some Jvm.ClassFile.FieldType.int)) cX3_freeOthers) = true := by decide +kernel
theorem hkX3_freeOthers_1 : tX3_freeOthers_1.all (mchk 6 false ((Option.some Jvm.ClassFile.FieldType.int)) cX3_freeOthers) = true := by decide +kernel
theorem hkX3_freeOthers_2 : tX3_freeOthers_2.all (mchk 6 false ((Option.some Jvm.ClassFile.FieldType.int)) cX3_freeOthers) = true := by decide +kernel
theorem htX3_freeOthers : mTC 6 false ((Option.some Jvm.ClassFile.FieldType.int)) cX3_freeOthers tX3_freeOthers := mTC_cons hkX3_freeOthers_0 (mTC_cons hkX3_freeOthers_1 (mTC_cons hkX3_freeOthers_2 (mTC_nil)))
theorem hkX3_renewNursery_0 : tX3_renewNursery_0.all (mchk 6 false ((Option.none : Option Jvm.ClassFile.FieldType)) cX3_renewNursery) = true := by decide +kernel
theorem hkX3_renewNursery_1 : tX3_renewNursery_1.all (mchk 6 false ((Option.none : Option Jvm.ClassFile.FieldType)) cX3_renewNursery) = true := by decide +kernel
theorem hkX3_renewNursery_2 : tX3_renewNursery_2.all (mchk 6 false ((Option.none : Option Jvm.ClassFile.FieldType)) cX3_renewNursery) = true := by decide +kernel
theorem htX3_renewNursery : mTC 6 false ((Option.none : Option Jvm.ClassFile.FieldType)) cX3_renewNursery tX3_renewNursery := mTC_cons hkX3_renewNursery_0 (mTC_cons hkX3_renewNursery_1 (mTC_cons hkX3_renewNursery_2 (mTC_nil)))
theorem hkX3_renewRememberedSet_0 : tX3_renewRememberedSet_0.all (mchk 6 false ((Option.none : Option Jvm.ClassFile.FieldType)) cX3_renewRememberedSet) = true := by decide +kernel
theorem hkX3_renewRememberedSet_1 : tX3_renewRememberedSet_1.all (mchk 6 false ((Option.none : Option Jvm.ClassFile.FieldType)) cX3_renewRememberedSet) = true := by decide +kernel
theorem hkX3_renewRememberedSet_2 : tX3_renewRememberedSet_2.all (mchk 6 false ((Option.none : Option Jvm.ClassFile.FieldType)) cX3_renewRememberedSet) = true := by decide +kernel
theorem hkX3_renewRememberedSet_3 : tX3_renewRememberedSet_3.all (mchk 6 false ((Option.none : Option Jvm.ClassFile.FieldType)) cX3_renewRememberedSet) = true := by decide +kernel
theorem hkX3_renewRememberedSet_4 : tX3_renewRememberedSet_4.all (mchk 6 false ((Option.none : Option Jvm.ClassFile.FieldType)) cX3_renewRememberedSet) = true := by decide +kernel
theorem htX3_renewRememberedSet : mTC 6 false ((Option.none : Option Jvm.ClassFile.FieldType)) cX3_renewRememberedSet tX3_renewRememberedSet := mTC_cons hkX3_renewRememberedSet_0 (mTC_cons hkX3_renewRememberedSet_1 (mTC_cons hkX3_renewRememberedSet_2 (mTC_cons hkX3_renewRememberedSet_3 (mTC_cons hkX3_renewRememberedSet_4 (mTC_nil)))))
theorem hkX5_init_0 : tX5_init_0.all (mchk 7 true ((Option.none : Option Jvm.ClassFile.FieldType)) cX5_init) = true := by decide +kernel
theorem hkX5_init_1 : tX5_init_1.all (mchk 7 true ((Option.none : Option Jvm.ClassFile.FieldType)) cX5_init) = true := by decide +kernel
theorem hkX5_init_2 : tX5_init_2.all (mchk 7 true ((Option.none : Option Jvm.ClassFile.FieldType)) cX5_init) = true := by decide +kernel
theorem htX5_init : mTC 7 true ((Option.none : Option Jvm.ClassFile.FieldType)) cX5_init tX5_init := mTC_cons hkX5_init_0 (mTC_cons hkX5_init_1 (mTC_cons hkX5_init_2 (mTC_nil)))
theorem hkX5_textLength_0 : tX5_textLength_0.all (mchk 7 false ((Option.some Jvm.ClassFile.FieldType.int)) cX5_textLength) = true := by decide +kernel
theorem htX5_textLength : mTC 7 false ((Option.some Jvm.ClassFile.FieldType.int)) cX5_textLength tX5_textLength := mTC_cons hkX5_textLength_0 (mTC_nil)
theorem hkX5_addByte_0 : tX5_addByte_0.all (mchk 7 false ((Option.some Jvm.ClassFile.FieldType.int)) cX5_addByte) = true := by decide +kernel
theorem hkX5_addByte_1 : tX5_addByte_1.all (mchk 7 false ((Option.some Jvm.ClassFile.FieldType.int)) cX5_addByte) = true := by decide +kernel
theorem hkX5_addByte_2 : tX5_addByte_2.all (mchk 7 false ((Option.some Jvm.ClassFile.FieldType.int)) cX5_addByte) = true := by decide +kernel
theorem htX5_addByte : mTC 7 false ((Option.some Jvm.ClassFile.FieldType.int)) cX5_addByte tX5_addByte := mTC_cons hkX5_addByte_0 (mTC_cons hkX5_addByte_1 (mTC_cons hkX5_addByte_2 (mTC_nil)))
theorem hkX5_clear_0 : tX5_clear_0.all (mchk 7 false ((Option.some Jvm.ClassFile.FieldType.int)) cX5_clear) = true := by decide +kernel
theorem htX5_clear : mTC 7 false ((Option.some Jvm.ClassFile.FieldType.int)) cX5_clear tX5_clear := mTC_cons hkX5_clear_0 (mTC_nil)
theorem hkX5_commandCount_0 : tX5_commandCount_0.all (mchk 7 false ((Option.some Jvm.ClassFile.FieldType.int)) cX5_commandCount) = true := by decide +kernel
theorem htX5_commandCount : mTC 7 false ((Option.some Jvm.ClassFile.FieldType.int)) cX5_commandCount tX5_commandCount := mTC_cons hkX5_commandCount_0 (mTC_nil)
theorem hkX5_wordOf_0 : tX5_wordOf_0.all (mchk 7 false ((Option.some Jvm.ClassFile.FieldType.int)) cX5_wordOf) = true := by decide +kernel
theorem hkX5_wordOf_1 : tX5_wordOf_1.all (mchk 7 false ((Option.some Jvm.ClassFile.FieldType.int)) cX5_wordOf) = true := by decide +kernel
theorem htX5_wordOf : mTC 7 false ((Option.some Jvm.ClassFile.FieldType.int)) cX5_wordOf tX5_wordOf := mTC_cons hkX5_wordOf_0 (mTC_cons hkX5_wordOf_1 (mTC_nil))
theorem hkX5_argument_0 : tX5_argument_0.all (mchk 7 false ((Option.some Jvm.ClassFile.FieldType.int)) cX5_argument) = true := by decide +kernel
theorem hkX5_argument_1 : tX5_argument_1.all (mchk 7 false ((Option.some Jvm.ClassFile.FieldType.int)) cX5_argument) = true := by decide +kernel
theorem hkX5_argument_2 : tX5_argument_2.all (mchk 7 false ((Option.some Jvm.ClassFile.FieldType.int)) cX5_argument) = true := by decide +kernel
theorem htX5_argument : mTC 7 false ((Option.some Jvm.ClassFile.FieldType.int)) cX5_argument tX5_argument := mTC_cons hkX5_argument_0 (mTC_cons hkX5_argument_1 (mTC_cons hkX5_argument_2 (mTC_nil)))
theorem hkX5_parse_0 : tX5_parse_0.all (mchk 7 false ((Option.some Jvm.ClassFile.FieldType.int)) cX5_parse) = true := by decide +kernel
theorem hkX5_parse_1 : tX5_parse_1.all (mchk 7 false ((Option.some Jvm.ClassFile.FieldType.int)) cX5_parse) = true := by decide +kernel
theorem hkX5_parse_2 : tX5_parse_2.all (mchk 7 false ((Option.some Jvm.ClassFile.FieldType.int)) cX5_parse) = true := by decide +kernel
theorem hkX5_parse_3 : tX5_parse_3.all (mchk 7 false ((Option.some Jvm.ClassFile.FieldType.int)) cX5_parse) = true := by decide +kernel
theorem htX5_parse : mTC 7 false ((Option.some Jvm.ClassFile.FieldType.int)) cX5_parse tX5_parse := mTC_cons hkX5_parse_0 (mTC_cons hkX5_parse_1 (mTC_cons hkX5_parse_2 (mTC_cons hkX5_parse_3 (mTC_nil))))
theorem hkX5_parseCommand_0 : tX5_parseCommand_0.all (mchk 7 false ((Option.none : Option Jvm.ClassFile.FieldType)) cX5_parseCommand) = true := by decide +kernel
theorem hkX5_parseCommand_1 : tX5_parseCommand_1.all (mchk 7 false ((Option.none : Option Jvm.ClassFile.FieldType)) cX5_parseCommand) = true := by decide +kernel
theorem hkX5_parseCommand_2 : tX5_parseCommand_2.all (mchk 7 false ((Option.none : Option Jvm.ClassFile.FieldType)) cX5_parseCommand) = true := by decide +kernel
theorem hkX5_parseCommand_3 : tX5_parseCommand_3.all (mchk 7 false ((Option.none : Option Jvm.ClassFile.FieldType)) cX5_parseCommand) = true := by decide +kernel
theorem hkX5_parseCommand_4 : tX5_parseCommand_4.all (mchk 7 false ((Option.none : Option Jvm.ClassFile.FieldType)) cX5_parseCommand) = true := by decide +kernel
theorem hkX5_parseCommand_5 : tX5_parseCommand_5.all (mchk 7 false ((Option.none : Option Jvm.ClassFile.FieldType)) cX5_parseCommand) = true := by decide +kernel
theorem htX5_parseCommand : mTC 7 false ((Option.none : Option Jvm.ClassFile.FieldType)) cX5_parseCommand tX5_parseCommand := mTC_cons hkX5_parseCommand_0 (mTC_cons hkX5_parseCommand_1 (mTC_cons hkX5_parseCommand_2 (mTC_cons hkX5_parseCommand_3 (mTC_cons hkX5_parseCommand_4 (mTC_cons hkX5_parseCommand_5 (mTC_nil))))))
theorem hkX5_takesTarget_0 : tX5_takesTarget_0.all (mchk 7 false ((Option.some Jvm.ClassFile.FieldType.boolean)) cX5_takesTarget) = true := by decide +kernel
theorem hkX5_takesTarget_1 : tX5_takesTarget_1.all (mchk 7 false ((Option.some Jvm.ClassFile.FieldType.boolean)) cX5_takesTarget) = true := by decide +kernel
theorem htX5_takesTarget : mTC 7 false ((Option.some Jvm.ClassFile.FieldType.boolean)) cX5_takesTarget tX5_takesTarget := mTC_cons hkX5_takesTarget_0 (mTC_cons hkX5_takesTarget_1 (mTC_nil))
theorem hkX5_readWord_0 : tX5_readWord_0.all (mchk 7 false ((Option.some Jvm.ClassFile.FieldType.int)) cX5_readWord) = true := by decide +kernel
theorem hkX5_readWord_1 : tX5_readWord_1.all (mchk 7 false ((Option.some Jvm.ClassFile.FieldType.int)) cX5_readWord) = true := by decide +kernel
theorem hkX5_readWord_2 : tX5_readWord_2.all (mchk 7 false ((Option.some Jvm.ClassFile.FieldType.int)) cX5_readWord) = true := by decide +kernel
theorem hkX5_readWord_3 : tX5_readWord_3.all (mchk 7 false ((Option.some Jvm.ClassFile.FieldType.int)) cX5_readWord) = true := by decide +kernel
theorem hkX5_readWord_4 : tX5_readWord_4.all (mchk 7 false ((Option.some Jvm.ClassFile.FieldType.int)) cX5_readWord) = true := by decide +kernel
theorem htX5_readWord : mTC 7 false ((Option.some Jvm.ClassFile.FieldType.int)) cX5_readWord tX5_readWord := mTC_cons hkX5_readWord_0 (mTC_cons hkX5_readWord_1 (mTC_cons hkX5_readWord_2 (mTC_cons hkX5_readWord_3 (mTC_cons hkX5_readWord_4 (mTC_nil)))))
theorem hkX5_readArgument_0 : tX5_readArgument_0.all (mchk 7 false ((Option.some Jvm.ClassFile.FieldType.int)) cX5_readArgument) = true := by decide +kernel
theorem hkX5_readArgument_1 : tX5_readArgument_1.all (mchk 7 false ((Option.some Jvm.ClassFile.FieldType.int)) cX5_readArgument) = true := by decide +kernel
theorem htX5_readArgument : mTC 7 false ((Option.some Jvm.ClassFile.FieldType.int)) cX5_readArgument tX5_readArgument := mTC_cons hkX5_readArgument_0 (mTC_cons hkX5_readArgument_1 (mTC_nil))
theorem hkX5_readNumber_0 : tX5_readNumber_0.all (mchk 7 false ((Option.some Jvm.ClassFile.FieldType.int)) cX5_readNumber) = true := by decide +kernel
theorem hkX5_readNumber_1 : tX5_readNumber_1.all (mchk 7 false ((Option.some Jvm.ClassFile.FieldType.int)) cX5_readNumber) = true := by decide +kernel
theorem hkX5_readNumber_2 : tX5_readNumber_2.all (mchk 7 false ((Option.some Jvm.ClassFile.FieldType.int)) cX5_readNumber) = true := by decide +kernel
theorem hkX5_readNumber_3 : tX5_readNumber_3.all (mchk 7 false ((Option.some Jvm.ClassFile.FieldType.int)) cX5_readNumber) = true := by decide +kernel
theorem hkX5_readNumber_4 : tX5_readNumber_4.all (mchk 7 false ((Option.some Jvm.ClassFile.FieldType.int)) cX5_readNumber) = true := by decide +kernel
theorem htX5_readNumber : mTC 7 false ((Option.some Jvm.ClassFile.FieldType.int)) cX5_readNumber tX5_readNumber := mTC_cons hkX5_readNumber_0 (mTC_cons hkX5_readNumber_1 (mTC_cons hkX5_readNumber_2 (mTC_cons hkX5_readNumber_3 (mTC_cons hkX5_readNumber_4 (mTC_nil)))))
theorem hkX5_readSemicolon_0 : tX5_readSemicolon_0.all (mchk 7 false ((Option.none : Option Jvm.ClassFile.FieldType)) cX5_readSemicolon) = true := by decide +kernel
theorem hkX5_readSemicolon_1 : tX5_readSemicolon_1.all (mchk 7 false ((Option.none : Option Jvm.ClassFile.FieldType)) cX5_readSemicolon) = true := by decide +kernel
theorem htX5_readSemicolon : mTC 7 false ((Option.none : Option Jvm.ClassFile.FieldType)) cX5_readSemicolon tX5_readSemicolon := mTC_cons hkX5_readSemicolon_0 (mTC_cons hkX5_readSemicolon_1 (mTC_nil))
theorem hkX5_skipSpaces_0 : tX5_skipSpaces_0.all (mchk 7 false ((Option.none : Option Jvm.ClassFile.FieldType)) cX5_skipSpaces) = true := by decide +kernel
theorem hkX5_skipSpaces_1 : tX5_skipSpaces_1.all (mchk 7 false ((Option.none : Option Jvm.ClassFile.FieldType)) cX5_skipSpaces) = true := by decide +kernel
theorem htX5_skipSpaces : mTC 7 false ((Option.none : Option Jvm.ClassFile.FieldType)) cX5_skipSpaces tX5_skipSpaces := mTC_cons hkX5_skipSpaces_0 (mTC_cons hkX5_skipSpaces_1 (mTC_nil))
theorem hkX5_failAt_0 : tX5_failAt_0.all (mchk 7 false ((Option.none : Option Jvm.ClassFile.FieldType)) cX5_failAt) = true := by decide +kernel
theorem htX5_failAt : mTC 7 false ((Option.none : Option Jvm.ClassFile.FieldType)) cX5_failAt tX5_failAt := mTC_cons hkX5_failAt_0 (mTC_nil)
theorem hkX5_here_0 : tX5_here_0.all (mchk 7 false ((Option.some Jvm.ClassFile.FieldType.int)) cX5_here) = true := by decide +kernel
theorem hkX5_here_1 : tX5_here_1.all (mchk 7 false ((Option.some Jvm.ClassFile.FieldType.int)) cX5_here) = true := by decide +kernel
theorem htX5_here : mTC 7 false ((Option.some Jvm.ClassFile.FieldType.int)) cX5_here tX5_here := mTC_cons hkX5_here_0 (mTC_cons hkX5_here_1 (mTC_nil))
theorem hkX5_isLetter_0 : tX5_isLetter_0.all (mchk 7 false ((Option.some Jvm.ClassFile.FieldType.boolean)) cX5_isLetter) = true := by decide +kernel
theorem htX5_isLetter : mTC 7 false ((Option.some Jvm.ClassFile.FieldType.boolean)) cX5_isLetter tX5_isLetter := mTC_cons hkX5_isLetter_0 (mTC_nil)
theorem hkX5_isDigit_0 : tX5_isDigit_0.all (mchk 7 false ((Option.some Jvm.ClassFile.FieldType.boolean)) cX5_isDigit) = true := by decide +kernel
theorem htX5_isDigit : mTC 7 false ((Option.some Jvm.ClassFile.FieldType.boolean)) cX5_isDigit tX5_isDigit := mTC_cons hkX5_isDigit_0 (mTC_nil)
theorem hkX5_wordBetween_0 : tX5_wordBetween_0.all (mchk 7 false ((Option.some Jvm.ClassFile.FieldType.int)) cX5_wordBetween) = true := by decide +kernel
theorem hkX5_wordBetween_1 : tX5_wordBetween_1.all (mchk 7 false ((Option.some Jvm.ClassFile.FieldType.int)) cX5_wordBetween) = true := by decide +kernel
theorem htX5_wordBetween : mTC 7 false ((Option.some Jvm.ClassFile.FieldType.int)) cX5_wordBetween tX5_wordBetween := mTC_cons hkX5_wordBetween_0 (mTC_cons hkX5_wordBetween_1 (mTC_nil))
theorem hkX5_spellingOf_0 : tX5_spellingOf_0.all (mchk 7 false ((Option.some (Jvm.ClassFile.FieldType.object "java/lang/String"))) cX5_spellingOf) = true := by decide +kernel
theorem hkX5_spellingOf_1 : tX5_spellingOf_1.all (mchk 7 false ((Option.some (Jvm.ClassFile.FieldType.object "java/lang/String"))) cX5_spellingOf) = true := by decide +kernel
theorem htX5_spellingOf : mTC 7 false ((Option.some (Jvm.ClassFile.FieldType.object "java/lang/String"))) cX5_spellingOf tX5_spellingOf := mTC_cons hkX5_spellingOf_0 (mTC_cons hkX5_spellingOf_1 (mTC_nil))
theorem hkX5_spells_0 : tX5_spells_0.all (mchk 7 false ((Option.some Jvm.ClassFile.FieldType.boolean)) cX5_spells) = true := by decide +kernel
theorem hkX5_spells_1 : tX5_spells_1.all (mchk 7 false ((Option.some Jvm.ClassFile.FieldType.boolean)) cX5_spells) = true := by decide +kernel
theorem hkX5_spells_2 : tX5_spells_2.all (mchk 7 false ((Option.some Jvm.ClassFile.FieldType.boolean)) cX5_spells) = true := by decide +kernel
theorem hkX5_spells_3 : tX5_spells_3.all (mchk 7 false ((Option.some Jvm.ClassFile.FieldType.boolean)) cX5_spells) = true := by decide +kernel
theorem htX5_spells : mTC 7 false ((Option.some Jvm.ClassFile.FieldType.boolean)) cX5_spells tX5_spells := mTC_cons hkX5_spells_0 (mTC_cons hkX5_spells_1 (mTC_cons hkX5_spells_2 (mTC_cons hkX5_spells_3 (mTC_nil))))
theorem hkX6_init_0 : tX6_init_0.all (mchk 8 true ((Option.none : Option Jvm.ClassFile.FieldType)) cX6_init) = true := by decide +kernel
theorem hkX6_init_1 : tX6_init_1.all (mchk 8 true ((Option.none : Option Jvm.ClassFile.FieldType)) cX6_init) = true := by decide +kernel
theorem hkX6_init_2 : tX6_init_2.all (mchk 8 true ((Option.none : Option Jvm.ClassFile.FieldType)) cX6_init) = true := by decide +kernel
theorem hkX6_init_3 : tX6_init_3.all (mchk 8 true ((Option.none : Option Jvm.ClassFile.FieldType)) cX6_init) = true := by decide +kernel
theorem hkX6_init_4 : tX6_init_4.all (mchk 8 true ((Option.none : Option Jvm.ClassFile.FieldType)) cX6_init) = true := by decide +kernel
theorem htX6_init : mTC 8 true ((Option.none : Option Jvm.ClassFile.FieldType)) cX6_init tX6_init := mTC_cons hkX6_init_0 (mTC_cons hkX6_init_1 (mTC_cons hkX6_init_2 (mTC_cons hkX6_init_3 (mTC_cons hkX6_init_4 (mTC_nil)))))
theorem hkX6_reset_0 : tX6_reset_0.all (mchk 8 false ((Option.some Jvm.ClassFile.FieldType.int)) cX6_reset) = true := by decide +kernel
theorem hkX6_reset_1 : tX6_reset_1.all (mchk 8 false ((Option.some Jvm.ClassFile.FieldType.int)) cX6_reset) = true := by decide +kernel
theorem hkX6_reset_2 : tX6_reset_2.all (mchk 8 false ((Option.some Jvm.ClassFile.FieldType.int)) cX6_reset) = true := by decide +kernel
theorem hkX6_reset_3 : tX6_reset_3.all (mchk 8 false ((Option.some Jvm.ClassFile.FieldType.int)) cX6_reset) = true := by decide +kernel
theorem hkX6_reset_4 : tX6_reset_4.all (mchk 8 false ((Option.some Jvm.ClassFile.FieldType.int)) cX6_reset) = true := by decide +kernel
theorem htX6_reset : mTC 8 false ((Option.some Jvm.ClassFile.FieldType.int)) cX6_reset tX6_reset := mTC_cons hkX6_reset_0 (mTC_cons hkX6_reset_1 (mTC_cons hkX6_reset_2 (mTC_cons hkX6_reset_3 (mTC_cons hkX6_reset_4 (mTC_nil)))))
theorem hkX6_allocate_0 : tX6_allocate_0.all (mchk 8 false ((Option.some Jvm.ClassFile.FieldType.int)) cX6_allocate) = true := by decide +kernel
theorem htX6_allocate : mTC 8 false ((Option.some Jvm.ClassFile.FieldType.int)) cX6_allocate tX6_allocate := mTC_cons hkX6_allocate_0 (mTC_nil)
theorem hkX6_write_0 : tX6_write_0.all (mchk 8 false ((Option.some Jvm.ClassFile.FieldType.int)) cX6_write) = true := by decide +kernel
theorem htX6_write : mTC 8 false ((Option.some Jvm.ClassFile.FieldType.int)) cX6_write tX6_write := mTC_cons hkX6_write_0 (mTC_nil)
theorem hkX6_setRoot_0 : tX6_setRoot_0.all (mchk 8 false ((Option.some Jvm.ClassFile.FieldType.int)) cX6_setRoot) = true := by decide +kernel
theorem htX6_setRoot : mTC 8 false ((Option.some Jvm.ClassFile.FieldType.int)) cX6_setRoot tX6_setRoot := mTC_cons hkX6_setRoot_0 (mTC_nil)
theorem hkX6_minorCollection_0 : tX6_minorCollection_0.all (mchk 8 false ((Option.some Jvm.ClassFile.FieldType.int)) cX6_minorCollection) = true := by decide +kernel
theorem htX6_minorCollection : mTC 8 false ((Option.some Jvm.ClassFile.FieldType.int)) cX6_minorCollection tX6_minorCollection := mTC_cons hkX6_minorCollection_0 (mTC_nil)
theorem hkX6_startMajor_0 : tX6_startMajor_0.all (mchk 8 false ((Option.some Jvm.ClassFile.FieldType.int)) cX6_startMajor) = true := by decide +kernel
theorem htX6_startMajor : mTC 8 false ((Option.some Jvm.ClassFile.FieldType.int)) cX6_startMajor tX6_startMajor := mTC_cons hkX6_startMajor_0 (mTC_nil)
theorem hkX6_stepMajor_0 : tX6_stepMajor_0.all (mchk 8 false ((Option.some Jvm.ClassFile.FieldType.int)) cX6_stepMajor) = true := by decide +kernel
theorem htX6_stepMajor : mTC 8 false ((Option.some Jvm.ClassFile.FieldType.int)) cX6_stepMajor tX6_stepMajor := mTC_cons hkX6_stepMajor_0 (mTC_nil)
theorem hkX6_exists_0 : tX6_exists_0.all (mchk 8 false ((Option.some Jvm.ClassFile.FieldType.int)) cX6_exists) = true := by decide +kernel
theorem htX6_exists : mTC 8 false ((Option.some Jvm.ClassFile.FieldType.int)) cX6_exists tX6_exists := mTC_cons hkX6_exists_0 (mTC_nil)
theorem hkX6_isOld_0 : tX6_isOld_0.all (mchk 8 false ((Option.some Jvm.ClassFile.FieldType.int)) cX6_isOld) = true := by decide +kernel
theorem hkX6_isOld_1 : tX6_isOld_1.all (mchk 8 false ((Option.some Jvm.ClassFile.FieldType.int)) cX6_isOld) = true := by decide +kernel
theorem htX6_isOld : mTC 8 false ((Option.some Jvm.ClassFile.FieldType.int)) cX6_isOld tX6_isOld := mTC_cons hkX6_isOld_0 (mTC_cons hkX6_isOld_1 (mTC_nil))
theorem hkX6_age_0 : tX6_age_0.all (mchk 8 false ((Option.some Jvm.ClassFile.FieldType.int)) cX6_age) = true := by decide +kernel
theorem hkX6_age_1 : tX6_age_1.all (mchk 8 false ((Option.some Jvm.ClassFile.FieldType.int)) cX6_age) = true := by decide +kernel
theorem htX6_age : mTC 8 false ((Option.some Jvm.ClassFile.FieldType.int)) cX6_age tX6_age := mTC_cons hkX6_age_0 (mTC_cons hkX6_age_1 (mTC_nil))
theorem hkX6_reference_0 : tX6_reference_0.all (mchk 8 false ((Option.some Jvm.ClassFile.FieldType.int)) cX6_reference) = true := by decide +kernel
theorem hkX6_reference_1 : tX6_reference_1.all (mchk 8 false ((Option.some Jvm.ClassFile.FieldType.int)) cX6_reference) = true := by decide +kernel
theorem htX6_reference : mTC 8 false ((Option.some Jvm.ClassFile.FieldType.int)) cX6_reference tX6_reference := mTC_cons hkX6_reference_0 (mTC_cons hkX6_reference_1 (mTC_nil))
theorem hkX6_root_0 : tX6_root_0.all (mchk 8 false ((Option.some Jvm.ClassFile.FieldType.int)) cX6_root) = true := by decide +kernel
theorem hkX6_root_1 : tX6_root_1.all (mchk 8 false ((Option.some Jvm.ClassFile.FieldType.int)) cX6_root) = true := by decide +kernel
theorem htX6_root : mTC 8 false ((Option.some Jvm.ClassFile.FieldType.int)) cX6_root tX6_root := mTC_cons hkX6_root_0 (mTC_cons hkX6_root_1 (mTC_nil))
theorem hkX6_colour_0 : tX6_colour_0.all (mchk 8 false ((Option.some Jvm.ClassFile.FieldType.int)) cX6_colour) = true := by decide +kernel
theorem hkX6_colour_1 : tX6_colour_1.all (mchk 8 false ((Option.some Jvm.ClassFile.FieldType.int)) cX6_colour) = true := by decide +kernel
theorem hkX6_colour_2 : tX6_colour_2.all (mchk 8 false ((Option.some Jvm.ClassFile.FieldType.int)) cX6_colour) = true := by decide +kernel
theorem htX6_colour : mTC 8 false ((Option.some Jvm.ClassFile.FieldType.int)) cX6_colour tX6_colour := mTC_cons hkX6_colour_0 (mTC_cons hkX6_colour_1 (mTC_cons hkX6_colour_2 (mTC_nil)))
theorem hkX6_reachableCount_0 : tX6_reachableCount_0.all (mchk 8 false ((Option.some Jvm.ClassFile.FieldType.int)) cX6_reachableCount) = true := by decide +kernel
theorem htX6_reachableCount : mTC 8 false ((Option.some Jvm.ClassFile.FieldType.int)) cX6_reachableCount tX6_reachableCount := mTC_cons hkX6_reachableCount_0 (mTC_nil)
theorem hkX6_youngCount_0 : tX6_youngCount_0.all (mchk 8 false ((Option.some Jvm.ClassFile.FieldType.int)) cX6_youngCount) = true := by decide +kernel
theorem htX6_youngCount : mTC 8 false ((Option.some Jvm.ClassFile.FieldType.int)) cX6_youngCount tX6_youngCount := mTC_cons hkX6_youngCount_0 (mTC_nil)
theorem hkX6_youngObject_0 : tX6_youngObject_0.all (mchk 8 false ((Option.some Jvm.ClassFile.FieldType.int)) cX6_youngObject) = true := by decide +kernel
theorem hkX6_youngObject_1 : tX6_youngObject_1.all (mchk 8 false ((Option.some Jvm.ClassFile.FieldType.int)) cX6_youngObject) = true := by decide +kernel
theorem htX6_youngObject : mTC 8 false ((Option.some Jvm.ClassFile.FieldType.int)) cX6_youngObject tX6_youngObject := mTC_cons hkX6_youngObject_0 (mTC_cons hkX6_youngObject_1 (mTC_nil))
theorem hkX6_youngWords_0 : tX6_youngWords_0.all (mchk 8 false ((Option.some Jvm.ClassFile.FieldType.int)) cX6_youngWords) = true := by decide +kernel
theorem htX6_youngWords : mTC 8 false ((Option.some Jvm.ClassFile.FieldType.int)) cX6_youngWords tX6_youngWords := mTC_cons hkX6_youngWords_0 (mTC_nil)
theorem hkX6_oldCount_0 : tX6_oldCount_0.all (mchk 8 false ((Option.some Jvm.ClassFile.FieldType.int)) cX6_oldCount) = true := by decide +kernel
theorem htX6_oldCount : mTC 8 false ((Option.some Jvm.ClassFile.FieldType.int)) cX6_oldCount tX6_oldCount := mTC_cons hkX6_oldCount_0 (mTC_nil)
theorem hkX6_oldWords_0 : tX6_oldWords_0.all (mchk 8 false ((Option.some Jvm.ClassFile.FieldType.int)) cX6_oldWords) = true := by decide +kernel
theorem htX6_oldWords : mTC 8 false ((Option.some Jvm.ClassFile.FieldType.int)) cX6_oldWords tX6_oldWords := mTC_cons hkX6_oldWords_0 (mTC_nil)
theorem hkX6_rememberedCount_0 : tX6_rememberedCount_0.all (mchk 8 false ((Option.some Jvm.ClassFile.FieldType.int)) cX6_rememberedCount) = true := by decide +kernel
theorem htX6_rememberedCount : mTC 8 false ((Option.some Jvm.ClassFile.FieldType.int)) cX6_rememberedCount tX6_rememberedCount := mTC_cons hkX6_rememberedCount_0 (mTC_nil)
theorem hkX6_remembered_0 : tX6_remembered_0.all (mchk 8 false ((Option.some Jvm.ClassFile.FieldType.int)) cX6_remembered) = true := by decide +kernel
theorem hkX6_remembered_1 : tX6_remembered_1.all (mchk 8 false ((Option.some Jvm.ClassFile.FieldType.int)) cX6_remembered) = true := by decide +kernel
theorem htX6_remembered : mTC 8 false ((Option.some Jvm.ClassFile.FieldType.int)) cX6_remembered tX6_remembered := mTC_cons hkX6_remembered_0 (mTC_cons hkX6_remembered_1 (mTC_nil))
theorem hkX6_phase_0 : tX6_phase_0.all (mchk 8 false ((Option.some Jvm.ClassFile.FieldType.int)) cX6_phase) = true := by decide +kernel
theorem htX6_phase : mTC 8 false ((Option.some Jvm.ClassFile.FieldType.int)) cX6_phase tX6_phase := mTC_cons hkX6_phase_0 (mTC_nil)
theorem hkX6_greyCount_0 : tX6_greyCount_0.all (mchk 8 false ((Option.some Jvm.ClassFile.FieldType.int)) cX6_greyCount) = true := by decide +kernel
theorem htX6_greyCount : mTC 8 false ((Option.some Jvm.ClassFile.FieldType.int)) cX6_greyCount tX6_greyCount := mTC_cons hkX6_greyCount_0 (mTC_nil)
theorem hkX6_promotionFailures_0 : tX6_promotionFailures_0.all (mchk 8 false ((Option.some Jvm.ClassFile.FieldType.int)) cX6_promotionFailures) = true := by decide +kernel
theorem htX6_promotionFailures : mTC 8 false ((Option.some Jvm.ClassFile.FieldType.int)) cX6_promotionFailures tX6_promotionFailures := mTC_cons hkX6_promotionFailures_0 (mTC_nil)
theorem hkX6_majorCount_0 : tX6_majorCount_0.all (mchk 8 false ((Option.some Jvm.ClassFile.FieldType.int)) cX6_majorCount) = true := by decide +kernel
theorem htX6_majorCount : mTC 8 false ((Option.some Jvm.ClassFile.FieldType.int)) cX6_majorCount tX6_majorCount := mTC_cons hkX6_majorCount_0 (mTC_nil)
theorem hkX6_describe_0 : tX6_describe_0.all (mchk 8 false ((Option.some Jvm.ClassFile.FieldType.int)) cX6_describe) = true := by decide +kernel
