theorem htX7_rootScan : mTC 1 false ((Option.none : Option Jvm.ClassFile.FieldType)) cX7_rootScan tX7_rootScan := mTC_cons hkX7_rootScan_0 (mTC_cons hkX7_rootScan_1 (mTC_cons hkX7_rootScan_2 (mTC_nil)))
theorem hkX7_startMajor_0 : tX7_startMajor_0.all (mchk 1 false ((Option.some Jvm.ClassFile.FieldType.int)) cX7_startMajor) = true := by decide +kernel
theorem hkX7_startMajor_1 : tX7_startMajor_1.all (mchk 1 false ((Option.some Jvm.ClassFile.FieldType.int)) cX7_startMajor) = true := by decide +kernel
theorem hkX7_startMajor_2 : tX7_startMajor_2.all (mchk 1 false ((Option.some Jvm.ClassFile.FieldType.int)) cX7_startMajor) = true := by decide +kernel
theorem hkX7_startMajor_3 : tX7_startMajor_3.all (mchk 1 false ((Option.some Jvm.ClassFile.FieldType.int)) cX7_startMajor) = true := by decide +kernel
theorem htX7_startMajor : mTC 1 false ((Option.some Jvm.ClassFile.FieldType.int)) cX7_startMajor tX7_startMajor := mTC_cons hkX7_startMajor_0 (mTC_cons hkX7_startMajor_1 (mTC_cons hkX7_startMajor_2 (mTC_cons hkX7_startMajor_3 (mTC_nil))))
theorem hkX7_takeFirst_0 : tX7_takeFirst_0.all (mchk 1 false ((Option.some Jvm.ClassFile.FieldType.int)) cX7_takeFirst) = true := by decide +kernel
theorem hkX7_takeFirst_1 : tX7_takeFirst_1.all (mchk 1 false ((Option.some Jvm.ClassFile.FieldType.int)) cX7_takeFirst) = true := by decide +kernel
theorem hkX7_takeFirst_2 : tX7_takeFirst_2.all (mchk 1 false ((Option.some Jvm.ClassFile.FieldType.int)) cX7_takeFirst) = true := by decide +kernel
theorem htX7_takeFirst : mTC 1 false ((Option.some Jvm.ClassFile.FieldType.int)) cX7_takeFirst tX7_takeFirst := mTC_cons hkX7_takeFirst_0 (mTC_cons hkX7_takeFirst_1 (mTC_cons hkX7_takeFirst_2 (mTC_nil)))
theorem hkX7_forget_0 : tX7_forget_0.all (mchk 1 false ((Option.none : Option Jvm.ClassFile.FieldType)) cX7_forget) = true := by decide +kernel
theorem hkX7_forget_1 : tX7_forget_1.all (mchk 1 false ((Option.none : Option Jvm.ClassFile.FieldType)) cX7_forget) = true := by decide +kernel
theorem hkX7_forget_2 : tX7_forget_2.all (mchk 1 false ((Option.none : Option Jvm.ClassFile.FieldType)) cX7_forget) = true := by decide +kernel
theorem htX7_forget : mTC 1 false ((Option.none : Option Jvm.ClassFile.FieldType)) cX7_forget tX7_forget := mTC_cons hkX7_forget_0 (mTC_cons hkX7_forget_1 (mTC_cons hkX7_forget_2 (mTC_nil)))
theorem hkX7_markUnit_0 : tX7_markUnit_0.all (mchk 1 false ((Option.none : Option Jvm.ClassFile.FieldType)) cX7_markUnit) = true := by decide +kernel
theorem hkX7_markUnit_1 : tX7_markUnit_1.all (mchk 1 false ((Option.none : Option Jvm.ClassFile.FieldType)) cX7_markUnit) = true := by decide +kernel
theorem hkX7_markUnit_2 : tX7_markUnit_2.all (mchk 1 false ((Option.none : Option Jvm.ClassFile.FieldType)) cX7_markUnit) = true := by decide +kernel
theorem hkX7_markUnit_3 : tX7_markUnit_3.all (mchk 1 false ((Option.none : Option Jvm.ClassFile.FieldType)) cX7_markUnit) = true := by decide +kernel
theorem hkX7_markUnit_4 : tX7_markUnit_4.all (mchk 1 false ((Option.none : Option Jvm.ClassFile.FieldType)) cX7_markUnit) = true := by decide +kernel
theorem hkX7_markUnit_5 : tX7_markUnit_5.all (mchk 1 false ((Option.none : Option Jvm.ClassFile.FieldType)) cX7_markUnit) = true := by decide +kernel
theorem hkX7_markUnit_6 : tX7_markUnit_6.all (mchk 1 false ((Option.none : Option Jvm.ClassFile.FieldType)) cX7_markUnit) = true := by decide +kernel
theorem htX7_markUnit : mTC 1 false ((Option.none : Option Jvm.ClassFile.FieldType)) cX7_markUnit tX7_markUnit := mTC_cons hkX7_markUnit_0 (mTC_cons hkX7_markUnit_1 (mTC_cons hkX7_markUnit_2 (mTC_cons hkX7_markUnit_3 (mTC_cons hkX7_markUnit_4 (mTC_cons hkX7_markUnit_5 (mTC_cons hkX7_markUnit_6 (mTC_nil)))))))
theorem hkX7_sweepUnit_0 : tX7_sweepUnit_0.all (mchk 1 false ((Option.some Jvm.ClassFile.FieldType.boolean)) cX7_sweepUnit) = true := by decide +kernel
theorem hkX7_sweepUnit_1 : tX7_sweepUnit_1.all (mchk 1 false ((Option.some Jvm.ClassFile.FieldType.boolean)) cX7_sweepUnit) = true := by decide +kernel
theorem hkX7_sweepUnit_2 : tX7_sweepUnit_2.all (mchk 1 false ((Option.some Jvm.ClassFile.FieldType.boolean)) cX7_sweepUnit) = true := by decide +kernel
theorem hkX7_sweepUnit_3 : tX7_sweepUnit_3.all (mchk 1 false ((Option.some Jvm.ClassFile.FieldType.boolean)) cX7_sweepUnit) = true := by decide +kernel
theorem hkX7_sweepUnit_4 : tX7_sweepUnit_4.all (mchk 1 false ((Option.some Jvm.ClassFile.FieldType.boolean)) cX7_sweepUnit) = true := by decide +kernel
theorem htX7_sweepUnit : mTC 1 false ((Option.some Jvm.ClassFile.FieldType.boolean)) cX7_sweepUnit tX7_sweepUnit := mTC_cons hkX7_sweepUnit_0 (mTC_cons hkX7_sweepUnit_1 (mTC_cons hkX7_sweepUnit_2 (mTC_cons hkX7_sweepUnit_3 (mTC_cons hkX7_sweepUnit_4 (mTC_nil)))))
theorem hkX7_stepMajor_0 : tX7_stepMajor_0.all (mchk 1 false ((Option.some Jvm.ClassFile.FieldType.int)) cX7_stepMajor) = true := by decide +kernel
theorem hkX7_stepMajor_1 : tX7_stepMajor_1.all (mchk 1 false ((Option.some Jvm.ClassFile.FieldType.int)) cX7_stepMajor) = true := by decide +kernel
theorem hkX7_stepMajor_2 : tX7_stepMajor_2.all (mchk 1 false ((Option.some Jvm.ClassFile.FieldType.int)) cX7_stepMajor) = true := by decide +kernel
theorem hkX7_stepMajor_3 : tX7_stepMajor_3.all (mchk 1 false ((Option.some Jvm.ClassFile.FieldType.int)) cX7_stepMajor) = true := by decide +kernel
theorem hkX7_stepMajor_4 : tX7_stepMajor_4.all (mchk 1 false ((Option.some Jvm.ClassFile.FieldType.int)) cX7_stepMajor) = true := by decide +kernel
theorem htX7_stepMajor : mTC 1 false ((Option.some Jvm.ClassFile.FieldType.int)) cX7_stepMajor tX7_stepMajor := mTC_cons hkX7_stepMajor_0 (mTC_cons hkX7_stepMajor_1 (mTC_cons hkX7_stepMajor_2 (mTC_cons hkX7_stepMajor_3 (mTC_cons hkX7_stepMajor_4 (mTC_nil)))))
theorem hkX7_exists_0 : tX7_exists_0.all (mchk 1 false ((Option.some Jvm.ClassFile.FieldType.int)) cX7_exists) = true := by decide +kernel
theorem htX7_exists : mTC 1 false ((Option.some Jvm.ClassFile.FieldType.int)) cX7_exists tX7_exists := mTC_cons hkX7_exists_0 (mTC_nil)
theorem hkX7_isOld_0 : tX7_isOld_0.all (mchk 1 false ((Option.some Jvm.ClassFile.FieldType.int)) cX7_isOld) = true := by decide +kernel
theorem hkX7_isOld_1 : tX7_isOld_1.all (mchk 1 false ((Option.some Jvm.ClassFile.FieldType.int)) cX7_isOld) = true := by decide +kernel
theorem htX7_isOld : mTC 1 false ((Option.some Jvm.ClassFile.FieldType.int)) cX7_isOld tX7_isOld := mTC_cons hkX7_isOld_0 (mTC_cons hkX7_isOld_1 (mTC_nil))
theorem hkX7_age_0 : tX7_age_0.all (mchk 1 false ((Option.some Jvm.ClassFile.FieldType.int)) cX7_age) = true := by decide +kernel
theorem hkX7_age_1 : tX7_age_1.all (mchk 1 false ((Option.some Jvm.ClassFile.FieldType.int)) cX7_age) = true := by decide +kernel
theorem htX7_age : mTC 1 false ((Option.some Jvm.ClassFile.FieldType.int)) cX7_age tX7_age := mTC_cons hkX7_age_0 (mTC_cons hkX7_age_1 (mTC_nil))
theorem hkX7_reference_0 : tX7_reference_0.all (mchk 1 false ((Option.some Jvm.ClassFile.FieldType.int)) cX7_reference) = true := by decide +kernel
theorem hkX7_reference_1 : tX7_reference_1.all (mchk 1 false ((Option.some Jvm.ClassFile.FieldType.int)) cX7_reference) = true := by decide +kernel
theorem htX7_reference : mTC 1 false ((Option.some Jvm.ClassFile.FieldType.int)) cX7_reference tX7_reference := mTC_cons hkX7_reference_0 (mTC_cons hkX7_reference_1 (mTC_nil))
theorem hkX7_root_0 : tX7_root_0.all (mchk 1 false ((Option.some Jvm.ClassFile.FieldType.int)) cX7_root) = true := by decide +kernel
theorem hkX7_root_1 : tX7_root_1.all (mchk 1 false ((Option.some Jvm.ClassFile.FieldType.int)) cX7_root) = true := by decide +kernel
theorem htX7_root : mTC 1 false ((Option.some Jvm.ClassFile.FieldType.int)) cX7_root tX7_root := mTC_cons hkX7_root_0 (mTC_cons hkX7_root_1 (mTC_nil))
theorem hkX7_colour_0 : tX7_colour_0.all (mchk 1 false ((Option.some Jvm.ClassFile.FieldType.int)) cX7_colour) = true := by decide +kernel
theorem hkX7_colour_1 : tX7_colour_1.all (mchk 1 false ((Option.some Jvm.ClassFile.FieldType.int)) cX7_colour) = true := by decide +kernel
theorem hkX7_colour_2 : tX7_colour_2.all (mchk 1 false ((Option.some Jvm.ClassFile.FieldType.int)) cX7_colour) = true := by decide +kernel
theorem htX7_colour : mTC 1 false ((Option.some Jvm.ClassFile.FieldType.int)) cX7_colour tX7_colour := mTC_cons hkX7_colour_0 (mTC_cons hkX7_colour_1 (mTC_cons hkX7_colour_2 (mTC_nil)))
theorem hkX7_reachableCount_0 : tX7_reachableCount_0.all (mchk 1 false ((Option.some Jvm.ClassFile.FieldType.int)) cX7_reachableCount) = true := by decide +kernel
theorem hkX7_reachableCount_1 : tX7_reachableCount_1.all (mchk 1 false ((Option.some Jvm.ClassFile.FieldType.int)) cX7_reachableCount) = true := by decide +kernel
theorem hkX7_reachableCount_2 : tX7_reachableCount_2.all (mchk 1 false ((Option.some Jvm.ClassFile.FieldType.int)) cX7_reachableCount) = true := by decide +kernel
theorem hkX7_reachableCount_3 : tX7_reachableCount_3.all (mchk 1 false ((Option.some Jvm.ClassFile.FieldType.int)) cX7_reachableCount) = true := by decide +kernel
theorem hkX7_reachableCount_4 : tX7_reachableCount_4.all (mchk 1 false ((Option.some Jvm.ClassFile.FieldType.int)) cX7_reachableCount) = true := by decide +kernel
theorem hkX7_reachableCount_5 : tX7_reachableCount_5.all (mchk 1 false ((Option.some Jvm.ClassFile.FieldType.int)) cX7_reachableCount) = true := by decide +kernel
theorem hkX7_reachableCount_6 : tX7_reachableCount_6.all (mchk 1 false ((Option.some Jvm.ClassFile.FieldType.int)) cX7_reachableCount) = true := by decide +kernel
theorem htX7_reachableCount : mTC 1 false ((Option.some Jvm.ClassFile.FieldType.int)) cX7_reachableCount tX7_reachableCount := mTC_cons hkX7_reachableCount_0 (mTC_cons hkX7_reachableCount_1 (mTC_cons hkX7_reachableCount_2 (mTC_cons hkX7_reachableCount_3 (mTC_cons hkX7_reachableCount_4 (mTC_cons hkX7_reachableCount_5 (mTC_cons hkX7_reachableCount_6 (mTC_nil)))))))
theorem hkX7_meets_0 : tX7_meets_0.all (mchk 1 false ((Option.some Jvm.ClassFile.FieldType.int)) cX7_meets) = true := by decide +kernel
theorem hkX7_meets_1 : tX7_meets_1.all (mchk 1 false ((Option.some Jvm.ClassFile.FieldType.int)) cX7_meets) = true := by decide +kernel
theorem hkX7_meets_2 : tX7_meets_2.all (mchk 1 false ((Option.some Jvm.ClassFile.FieldType.int)) cX7_meets) = true := by decide +kernel
theorem htX7_meets : mTC 1 false ((Option.some Jvm.ClassFile.FieldType.int)) cX7_meets tX7_meets := mTC_cons hkX7_meets_0 (mTC_cons hkX7_meets_1 (mTC_cons hkX7_meets_2 (mTC_nil)))
theorem hkX7_youngCount_0 : tX7_youngCount_0.all (mchk 1 false ((Option.some Jvm.ClassFile.FieldType.int)) cX7_youngCount) = true := by decide +kernel
theorem htX7_youngCount : mTC 1 false ((Option.some Jvm.ClassFile.FieldType.int)) cX7_youngCount tX7_youngCount := mTC_cons hkX7_youngCount_0 (mTC_nil)
theorem hkX7_youngObject_0 : tX7_youngObject_0.all (mchk 1 false ((Option.some Jvm.ClassFile.FieldType.int)) cX7_youngObject) = true := by decide +kernel
theorem hkX7_youngObject_1 : tX7_youngObject_1.all (mchk 1 false ((Option.some Jvm.ClassFile.FieldType.int)) cX7_youngObject) = true := by decide +kernel
theorem htX7_youngObject : mTC 1 false ((Option.some Jvm.ClassFile.FieldType.int)) cX7_youngObject tX7_youngObject := mTC_cons hkX7_youngObject_0 (mTC_cons hkX7_youngObject_1 (mTC_nil))
theorem hkX7_youngWords_0 : tX7_youngWords_0.all (mchk 1 false ((Option.some Jvm.ClassFile.FieldType.int)) cX7_youngWords) = true := by decide +kernel
theorem htX7_youngWords : mTC 1 false ((Option.some Jvm.ClassFile.FieldType.int)) cX7_youngWords tX7_youngWords := mTC_cons hkX7_youngWords_0 (mTC_nil)
theorem hkX7_oldCount_0 : tX7_oldCount_0.all (mchk 1 false ((Option.some Jvm.ClassFile.FieldType.int)) cX7_oldCount) = true := by decide +kernel
theorem hkX7_oldCount_1 : tX7_oldCount_1.all (mchk 1 false ((Option.some Jvm.ClassFile.FieldType.int)) cX7_oldCount) = true := by decide +kernel
theorem hkX7_oldCount_2 : tX7_oldCount_2.all (mchk 1 false ((Option.some Jvm.ClassFile.FieldType.int)) cX7_oldCount) = true := by decide +kernel
theorem htX7_oldCount : mTC 1 false ((Option.some Jvm.ClassFile.FieldType.int)) cX7_oldCount tX7_oldCount := mTC_cons hkX7_oldCount_0 (mTC_cons hkX7_oldCount_1 (mTC_cons hkX7_oldCount_2 (mTC_nil)))
theorem hkX7_oldWords_0 : tX7_oldWords_0.all (mchk 1 false ((Option.some Jvm.ClassFile.FieldType.int)) cX7_oldWords) = true := by decide +kernel
theorem htX7_oldWords : mTC 1 false ((Option.some Jvm.ClassFile.FieldType.int)) cX7_oldWords tX7_oldWords := mTC_cons hkX7_oldWords_0 (mTC_nil)
theorem hkX7_rememberedCount_0 : tX7_rememberedCount_0.all (mchk 1 false ((Option.some Jvm.ClassFile.FieldType.int)) cX7_rememberedCount) = true := by decide +kernel
theorem htX7_rememberedCount : mTC 1 false ((Option.some Jvm.ClassFile.FieldType.int)) cX7_rememberedCount tX7_rememberedCount := mTC_cons hkX7_rememberedCount_0 (mTC_nil)
theorem hkX7_remembered_0 : tX7_remembered_0.all (mchk 1 false ((Option.some Jvm.ClassFile.FieldType.int)) cX7_remembered) = true := by decide +kernel
theorem hkX7_remembered_1 : tX7_remembered_1.all (mchk 1 false ((Option.some Jvm.ClassFile.FieldType.int)) cX7_remembered) = true := by decide +kernel
theorem htX7_remembered : mTC 1 false ((Option.some Jvm.ClassFile.FieldType.int)) cX7_remembered tX7_remembered := mTC_cons hkX7_remembered_0 (mTC_cons hkX7_remembered_1 (mTC_nil))
theorem hkX7_phase_0 : tX7_phase_0.all (mchk 1 false ((Option.some Jvm.ClassFile.FieldType.int)) cX7_phase) = true := by decide +kernel
theorem htX7_phase : mTC 1 false ((Option.some Jvm.ClassFile.FieldType.int)) cX7_phase tX7_phase := mTC_cons hkX7_phase_0 (mTC_nil)
theorem hkX7_greyCount_0 : tX7_greyCount_0.all (mchk 1 false ((Option.some Jvm.ClassFile.FieldType.int)) cX7_greyCount) = true := by decide +kernel
theorem htX7_greyCount : mTC 1 false ((Option.some Jvm.ClassFile.FieldType.int)) cX7_greyCount tX7_greyCount := mTC_cons hkX7_greyCount_0 (mTC_nil)
theorem hkX7_promotionFailures_0 : tX7_promotionFailures_0.all (mchk 1 false ((Option.some Jvm.ClassFile.FieldType.int)) cX7_promotionFailures) = true := by decide +kernel
theorem htX7_promotionFailures : mTC 1 false ((Option.some Jvm.ClassFile.FieldType.int)) cX7_promotionFailures tX7_promotionFailures := mTC_cons hkX7_promotionFailures_0 (mTC_nil)
theorem hkX7_majorCount_0 : tX7_majorCount_0.all (mchk 1 false ((Option.some Jvm.ClassFile.FieldType.int)) cX7_majorCount) = true := by decide +kernel
theorem htX7_majorCount : mTC 1 false ((Option.some Jvm.ClassFile.FieldType.int)) cX7_majorCount tX7_majorCount := mTC_cons hkX7_majorCount_0 (mTC_nil)
theorem hkX7_put_0 : tX7_put_0.all (mchk 1 false ((Option.none : Option Jvm.ClassFile.FieldType)) cX7_put) = true := by decide +kernel
theorem hkX7_put_1 : tX7_put_1.all (mchk 1 false ((Option.none : Option Jvm.ClassFile.FieldType)) cX7_put) = true := by decide +kernel
theorem htX7_put : mTC 1 false ((Option.none : Option Jvm.ClassFile.FieldType)) cX7_put tX7_put := mTC_cons hkX7_put_0 (mTC_cons hkX7_put_1 (mTC_nil))
theorem hkX7_putNumber_0 : tX7_putNumber_0.all (mchk 1 false ((Option.none : Option Jvm.ClassFile.FieldType)) cX7_putNumber) = true := by decide +kernel
theorem hkX7_putNumber_1 : tX7_putNumber_1.all (mchk 1 false ((Option.none : Option Jvm.ClassFile.FieldType)) cX7_putNumber) = true := by decide +kernel
theorem hkX7_putNumber_2 : tX7_putNumber_2.all (mchk 1 false ((Option.none : Option Jvm.ClassFile.FieldType)) cX7_putNumber) = true := by decide +kernel
theorem htX7_putNumber : mTC 1 false ((Option.none : Option Jvm.ClassFile.FieldType)) cX7_putNumber tX7_putNumber := mTC_cons hkX7_putNumber_0 (mTC_cons hkX7_putNumber_1 (mTC_cons hkX7_putNumber_2 (mTC_nil)))
theorem hkX7_putWord_0 : tX7_putWord_0.all (mchk 1 false ((Option.none : Option Jvm.ClassFile.FieldType)) cX7_putWord) = true := by decide +kernel
theorem hkX7_putWord_1 : tX7_putWord_1.all (mchk 1 false ((Option.none : Option Jvm.ClassFile.FieldType)) cX7_putWord) = true := by decide +kernel
theorem hkX7_putWord_2 : tX7_putWord_2.all (mchk 1 false ((Option.none : Option Jvm.ClassFile.FieldType)) cX7_putWord) = true := by decide +kernel
theorem hkX7_putWord_3 : tX7_putWord_3.all (mchk 1 false ((Option.none : Option Jvm.ClassFile.FieldType)) cX7_putWord) = true := by decide +kernel
theorem htX7_putWord : mTC 1 false ((Option.none : Option Jvm.ClassFile.FieldType)) cX7_putWord tX7_putWord := mTC_cons hkX7_putWord_0 (mTC_cons hkX7_putWord_1 (mTC_cons hkX7_putWord_2 (mTC_cons hkX7_putWord_3 (mTC_nil))))
theorem hkX7_describe_0 : tX7_describe_0.all (mchk 1 false ((Option.some Jvm.ClassFile.FieldType.int)) cX7_describe) = true := by decide +kernel
theorem hkX7_describe_1 : tX7_describe_1.all (mchk 1 false ((Option.some Jvm.ClassFile.FieldType.int)) cX7_describe) = true := by decide +kernel
theorem hkX7_describe_2 : tX7_describe_2.all (mchk 1 false ((Option.some Jvm.ClassFile.FieldType.int)) cX7_describe) = true := by decide +kernel
theorem hkX7_describe_3 : tX7_describe_3.all (mchk 1 false ((Option.some Jvm.ClassFile.FieldType.int)) cX7_describe) = true := by decide +kernel
theorem hkX7_describe_4 : tX7_describe_4.all (mchk 1 false ((Option.some Jvm.ClassFile.FieldType.int)) cX7_describe) = true := by decide +kernel
theorem hkX7_describe_5 : tX7_describe_5.all (mchk 1 false ((Option.some Jvm.ClassFile.FieldType.int)) cX7_describe) = true := by decide +kernel
theorem hkX7_describe_6 : tX7_describe_6.all (mchk 1 false ((Option.some Jvm.ClassFile.FieldType.int)) cX7_describe) = true := by decide +kernel
theorem hkX7_describe_7 : tX7_describe_7.all (mchk 1 false ((Option.some Jvm.ClassFile.FieldType.int)) cX7_describe) = true := by decide +kernel
theorem hkX7_describe_8 : tX7_describe_8.all (mchk 1 false ((Option.some Jvm.ClassFile.FieldType.int)) cX7_describe) = true := by decide +kernel
theorem htX7_describe : mTC 1 false ((Option.some Jvm.ClassFile.FieldType.int)) cX7_describe tX7_describe := mTC_cons hkX7_describe_0 (mTC_cons hkX7_describe_1 (mTC_cons hkX7_describe_2 (mTC_cons hkX7_describe_3 (mTC_cons hkX7_describe_4 (mTC_cons hkX7_describe_5 (mTC_cons hkX7_describe_6 (mTC_cons hkX7_describe_7 (mTC_cons hkX7_describe_8 (mTC_nil)))))))))
theorem hkX7_outputByte_0 : tX7_outputByte_0.all (mchk 1 false ((Option.some Jvm.ClassFile.FieldType.int)) cX7_outputByte) = true := by decide +kernel
theorem hkX7_outputByte_1 : tX7_outputByte_1.all (mchk 1 false ((Option.some Jvm.ClassFile.FieldType.int)) cX7_outputByte) = true := by decide +kernel
theorem htX7_outputByte : mTC 1 false ((Option.some Jvm.ClassFile.FieldType.int)) cX7_outputByte tX7_outputByte := mTC_cons hkX7_outputByte_0 (mTC_cons hkX7_outputByte_1 (mTC_nil))
theorem hkX7_append_0 : tX7_append_0.all (mchk 1 false ((Option.some Jvm.ClassFile.FieldType.int)) cX7_append) = true := by decide +kernel
theorem hkX7_append_1 : tX7_append_1.all (mchk 1 false ((Option.some Jvm.ClassFile.FieldType.int)) cX7_append) = true := by decide +kernel
theorem hkX7_append_2 : tX7_append_2.all (mchk 1 false ((Option.some Jvm.ClassFile.FieldType.int)) cX7_append) = true := by decide +kernel
theorem hkX7_append_3 : tX7_append_3.all (mchk 1 false ((Option.some Jvm.ClassFile.FieldType.int)) cX7_append) = true := by decide +kernel
theorem htX7_append : mTC 1 false ((Option.some Jvm.ClassFile.FieldType.int)) cX7_append tX7_append := mTC_cons hkX7_append_0 (mTC_cons hkX7_append_1 (mTC_cons hkX7_append_2 (mTC_cons hkX7_append_3 (mTC_nil))))
theorem hkX7_clearText_0 : tX7_clearText_0.all (mchk 1 false ((Option.some Jvm.ClassFile.FieldType.int)) cX7_clearText) = true := by decide +kernel
theorem htX7_clearText : mTC 1 false ((Option.some Jvm.ClassFile.FieldType.int)) cX7_clearText tX7_clearText := mTC_cons hkX7_clearText_0 (mTC_nil)
theorem hkX7_here_0 : tX7_here_0.all (mchk 1 false ((Option.some Jvm.ClassFile.FieldType.int)) cX7_here) = true := by decide +kernel
theorem hkX7_here_1 : tX7_here_1.all (mchk 1 false ((Option.some Jvm.ClassFile.FieldType.int)) cX7_here) = true := by decide +kernel
theorem htX7_here : mTC 1 false ((Option.some Jvm.ClassFile.FieldType.int)) cX7_here tX7_here := mTC_cons hkX7_here_0 (mTC_cons hkX7_here_1 (mTC_nil))
theorem hkX7_skip_0 : tX7_skip_0.all (mchk 1 false ((Option.none : Option Jvm.ClassFile.FieldType)) cX7_skip) = true := by decide +kernel
theorem hkX7_skip_1 : tX7_skip_1.all (mchk 1 false ((Option.none : Option Jvm.ClassFile.FieldType)) cX7_skip) = true := by decide +kernel
theorem htX7_skip : mTC 1 false ((Option.none : Option Jvm.ClassFile.FieldType)) cX7_skip tX7_skip := mTC_cons hkX7_skip_0 (mTC_cons hkX7_skip_1 (mTC_nil))
theorem hkX7_wrongAt_0 : tX7_wrongAt_0.all (mchk 1 false ((Option.none : Option Jvm.ClassFile.FieldType)) cX7_wrongAt) = true := by decide +kernel
theorem hkX7_wrongAt_1 : tX7_wrongAt_1.all (mchk 1 false ((Option.none : Option Jvm.ClassFile.FieldType)) cX7_wrongAt) = true := by decide +kernel
theorem htX7_wrongAt : mTC 1 false ((Option.none : Option Jvm.ClassFile.FieldType)) cX7_wrongAt tX7_wrongAt := mTC_cons hkX7_wrongAt_0 (mTC_cons hkX7_wrongAt_1 (mTC_nil))
theorem hkX7_wordCode_0 : tX7_wordCode_0.all (mchk 1 false ((Option.some Jvm.ClassFile.FieldType.int)) cX7_wordCode) = true := by decide +kernel
theorem hkX7_wordCode_1 : tX7_wordCode_1.all (mchk 1 false ((Option.some Jvm.ClassFile.FieldType.int)) cX7_wordCode) = true := by decide +kernel
theorem hkX7_wordCode_2 : tX7_wordCode_2.all (mchk 1 false ((Option.some Jvm.ClassFile.FieldType.int)) cX7_wordCode) = true := by decide +kernel
theorem htX7_wordCode : mTC 1 false ((Option.some Jvm.ClassFile.FieldType.int)) cX7_wordCode tX7_wordCode := mTC_cons hkX7_wordCode_0 (mTC_cons hkX7_wordCode_1 (mTC_cons hkX7_wordCode_2 (mTC_nil)))
theorem hkX7_commandOf_0 : tX7_commandOf_0.all (mchk 1 false ((Option.some Jvm.ClassFile.FieldType.int)) cX7_commandOf) = true := by decide +kernel
theorem hkX7_commandOf_1 : tX7_commandOf_1.all (mchk 1 false ((Option.some Jvm.ClassFile.FieldType.int)) cX7_commandOf) = true := by decide +kernel
theorem htX7_commandOf : mTC 1 false ((Option.some Jvm.ClassFile.FieldType.int)) cX7_commandOf tX7_commandOf := mTC_cons hkX7_commandOf_0 (mTC_cons hkX7_commandOf_1 (mTC_nil))
theorem hkX7_readWord_0 : tX7_readWord_0.all (mchk 1 false ((Option.some Jvm.ClassFile.FieldType.int)) cX7_readWord) = true := by decide +kernel
theorem hkX7_readWord_1 : tX7_readWord_1.all (mchk 1 false ((Option.some Jvm.ClassFile.FieldType.int)) cX7_readWord) = true := by decide +kernel
theorem hkX7_readWord_2 : tX7_readWord_2.all (mchk 1 false ((Option.some Jvm.ClassFile.FieldType.int)) cX7_readWord) = true := by decide +kernel
theorem hkX7_readWord_3 : tX7_readWord_3.all (mchk 1 false ((Option.some Jvm.ClassFile.FieldType.int)) cX7_readWord) = true := by decide +kernel
theorem htX7_readWord : mTC 1 false ((Option.some Jvm.ClassFile.FieldType.int)) cX7_readWord tX7_readWord := mTC_cons hkX7_readWord_0 (mTC_cons hkX7_readWord_1 (mTC_cons hkX7_readWord_2 (mTC_cons hkX7_readWord_3 (mTC_nil))))
theorem hkX7_readNumber_0 : tX7_readNumber_0.all (mchk 1 false ((Option.some Jvm.ClassFile.FieldType.int)) cX7_readNumber) = true := by decide +kernel
theorem hkX7_readNumber_1 : tX7_readNumber_1.all (mchk 1 false ((Option.some Jvm.ClassFile.FieldType.int)) cX7_readNumber) = true := by decide +kernel
theorem hkX7_readNumber_2 : tX7_readNumber_2.all (mchk 1 false ((Option.some Jvm.ClassFile.FieldType.int)) cX7_readNumber) = true := by decide +kernel
theorem hkX7_readNumber_3 : tX7_readNumber_3.all (mchk 1 false ((Option.some Jvm.ClassFile.FieldType.int)) cX7_readNumber) = true := by decide +kernel
theorem hkX7_readNumber_4 : tX7_readNumber_4.all (mchk 1 false ((Option.some Jvm.ClassFile.FieldType.int)) cX7_readNumber) = true := by decide +kernel
theorem hkX7_readNumber_5 : tX7_readNumber_5.all (mchk 1 false ((Option.some Jvm.ClassFile.FieldType.int)) cX7_readNumber) = true := by decide +kernel
