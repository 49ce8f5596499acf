theorem htJ5_isLatin1_aae02 : mTC 15 false ((Option.some Jvm.ClassFile.FieldType.boolean)) cJ5_isLatin1_aae02 tJ5_isLatin1_aae02 := mTC_cons hkJ5_isLatin1_aae02_0 (mTC_nil)
theorem hkJ5_getValue_6d5f1_0 : tJ5_getValue_6d5f1_0.all (mchk 15 false ((Option.some (Jvm.ClassFile.FieldType.array Jvm.ClassFile.FieldType.byte))) cJ5_getValue_6d5f1) = true := by decide +kernel
theorem htJ5_getValue_6d5f1 : mTC 15 false ((Option.some (Jvm.ClassFile.FieldType.array Jvm.ClassFile.FieldType.byte))) cJ5_getValue_6d5f1 tJ5_getValue_6d5f1 := mTC_cons hkJ5_getValue_6d5f1_0 (mTC_nil)
theorem hkJ5_newCapacity_0f7a4_0 : tJ5_newCapacity_0f7a4_0.all (mchk 15 false ((Option.some Jvm.ClassFile.FieldType.int)) cJ5_newCapacity_0f7a4) = true := by decide +kernel
theorem hkJ5_newCapacity_0f7a4_1 : tJ5_newCapacity_0f7a4_1.all (mchk 15 false ((Option.some Jvm.ClassFile.FieldType.int)) cJ5_newCapacity_0f7a4) = true := by decide +kernel
theorem hkJ5_newCapacity_0f7a4_2 : tJ5_newCapacity_0f7a4_2.all (mchk 15 false ((Option.some Jvm.ClassFile.FieldType.int)) cJ5_newCapacity_0f7a4) = true := by decide +kernel
theorem hkJ5_newCapacity_0f7a4_3 : tJ5_newCapacity_0f7a4_3.all (mchk 15 false ((Option.some Jvm.ClassFile.FieldType.int)) cJ5_newCapacity_0f7a4) = true := by decide +kernel
theorem htJ5_newCapacity_0f7a4 : mTC 15 false ((Option.some Jvm.ClassFile.FieldType.int)) cJ5_newCapacity_0f7a4 tJ5_newCapacity_0f7a4 := mTC_cons hkJ5_newCapacity_0f7a4_0 (mTC_cons hkJ5_newCapacity_0f7a4_1 (mTC_cons hkJ5_newCapacity_0f7a4_2 (mTC_cons hkJ5_newCapacity_0f7a4_3 (mTC_nil))))
theorem hkJ5_ensureCapacityInternal_d00df_0 : tJ5_ensureCapacityInternal_d00df_0.all (mchk 15 false ((Option.none : Option Jvm.ClassFile.FieldType)) cJ5_ensureCapacityInternal_d00df) = true := by decide +kernel
theorem hkJ5_ensureCapacityInternal_d00df_1 : tJ5_ensureCapacityInternal_d00df_1.all (mchk 15 false ((Option.none : Option Jvm.ClassFile.FieldType)) cJ5_ensureCapacityInternal_d00df) = true := by decide +kernel
theorem hkJ5_ensureCapacityInternal_d00df_2 : tJ5_ensureCapacityInternal_d00df_2.all (mchk 15 false ((Option.none : Option Jvm.ClassFile.FieldType)) cJ5_ensureCapacityInternal_d00df) = true := by decide +kernel
theorem htJ5_ensureCapacityInternal_d00df : mTC 15 false ((Option.none : Option Jvm.ClassFile.FieldType)) cJ5_ensureCapacityInternal_d00df tJ5_ensureCapacityInternal_d00df := mTC_cons hkJ5_ensureCapacityInternal_d00df_0 (mTC_cons hkJ5_ensureCapacityInternal_d00df_1 (mTC_cons hkJ5_ensureCapacityInternal_d00df_2 (mTC_nil)))
theorem hkJ5_inflateIfNeededFor_a7421_0 : tJ5_inflateIfNeededFor_a7421_0.all (mchk 15 false ((Option.none : Option Jvm.ClassFile.FieldType)) cJ5_inflateIfNeededFor_a7421) = true := by decide +kernel
theorem htJ5_inflateIfNeededFor_a7421 : mTC 15 false ((Option.none : Option Jvm.ClassFile.FieldType)) cJ5_inflateIfNeededFor_a7421 tJ5_inflateIfNeededFor_a7421 := mTC_cons hkJ5_inflateIfNeededFor_a7421_0 (mTC_nil)
theorem hkJ5_putStringAt_47b60_0 : tJ5_putStringAt_47b60_0.all (mchk 15 false ((Option.none : Option Jvm.ClassFile.FieldType)) cJ5_putStringAt_47b60) = true := by decide +kernel
theorem hkJ5_putStringAt_47b60_1 : tJ5_putStringAt_47b60_1.all (mchk 15 false ((Option.none : Option Jvm.ClassFile.FieldType)) cJ5_putStringAt_47b60) = true := by decide +kernel
theorem htJ5_putStringAt_47b60 : mTC 15 false ((Option.none : Option Jvm.ClassFile.FieldType)) cJ5_putStringAt_47b60 tJ5_putStringAt_47b60 := mTC_cons hkJ5_putStringAt_47b60_0 (mTC_cons hkJ5_putStringAt_47b60_1 (mTC_nil))
theorem hkJ5_append_cf1ce_0 : tJ5_append_cf1ce_0.all (mchk 15 false ((Option.some (Jvm.ClassFile.FieldType.object "java/lang/AbstractStringBuilder"))) cJ5_append_cf1ce) = true := by decide +kernel
theorem hkJ5_append_cf1ce_1 : tJ5_append_cf1ce_1.all (mchk 15 false ((Option.some (Jvm.ClassFile.FieldType.object "java/lang/AbstractStringBuilder"))) cJ5_append_cf1ce) = true := by decide +kernel
theorem hkJ5_append_cf1ce_2 : tJ5_append_cf1ce_2.all (mchk 15 false ((Option.some (Jvm.ClassFile.FieldType.object "java/lang/AbstractStringBuilder"))) cJ5_append_cf1ce) = true := by decide +kernel
theorem htJ5_append_cf1ce : mTC 15 false ((Option.some (Jvm.ClassFile.FieldType.object "java/lang/AbstractStringBuilder"))) cJ5_append_cf1ce tJ5_append_cf1ce := mTC_cons hkJ5_append_cf1ce_0 (mTC_cons hkJ5_append_cf1ce_1 (mTC_cons hkJ5_append_cf1ce_2 (mTC_nil)))
theorem hkJ5_append_3fe6f_0 : tJ5_append_3fe6f_0.all (mchk 15 false ((Option.some (Jvm.ClassFile.FieldType.object "java/lang/AbstractStringBuilder"))) cJ5_append_3fe6f) = true := by decide +kernel
theorem hkJ5_append_3fe6f_1 : tJ5_append_3fe6f_1.all (mchk 15 false ((Option.some (Jvm.ClassFile.FieldType.object "java/lang/AbstractStringBuilder"))) cJ5_append_3fe6f) = true := by decide +kernel
theorem hkJ5_append_3fe6f_2 : tJ5_append_3fe6f_2.all (mchk 15 false ((Option.some (Jvm.ClassFile.FieldType.object "java/lang/AbstractStringBuilder"))) cJ5_append_3fe6f) = true := by decide +kernel
theorem hkJ5_append_3fe6f_3 : tJ5_append_3fe6f_3.all (mchk 15 false ((Option.some (Jvm.ClassFile.FieldType.object "java/lang/AbstractStringBuilder"))) cJ5_append_3fe6f) = true := by decide +kernel
theorem hkJ5_append_3fe6f_4 : tJ5_append_3fe6f_4.all (mchk 15 false ((Option.some (Jvm.ClassFile.FieldType.object "java/lang/AbstractStringBuilder"))) cJ5_append_3fe6f) = true := by decide +kernel
theorem htJ5_append_3fe6f : mTC 15 false ((Option.some (Jvm.ClassFile.FieldType.object "java/lang/AbstractStringBuilder"))) cJ5_append_3fe6f tJ5_append_3fe6f := mTC_cons hkJ5_append_3fe6f_0 (mTC_cons hkJ5_append_3fe6f_1 (mTC_cons hkJ5_append_3fe6f_2 (mTC_cons hkJ5_append_3fe6f_3 (mTC_cons hkJ5_append_3fe6f_4 (mTC_nil)))))
theorem hkJ5_append_c97b9_0 : tJ5_append_c97b9_0.all (mchk 15 false ((Option.some (Jvm.ClassFile.FieldType.object "java/lang/AbstractStringBuilder"))) cJ5_append_c97b9) = true := by decide +kernel
theorem hkJ5_append_c97b9_1 : tJ5_append_c97b9_1.all (mchk 15 false ((Option.some (Jvm.ClassFile.FieldType.object "java/lang/AbstractStringBuilder"))) cJ5_append_c97b9) = true := by decide +kernel
theorem hkJ5_append_c97b9_2 : tJ5_append_c97b9_2.all (mchk 15 false ((Option.some (Jvm.ClassFile.FieldType.object "java/lang/AbstractStringBuilder"))) cJ5_append_c97b9) = true := by decide +kernel
theorem hkJ5_append_c97b9_3 : tJ5_append_c97b9_3.all (mchk 15 false ((Option.some (Jvm.ClassFile.FieldType.object "java/lang/AbstractStringBuilder"))) cJ5_append_c97b9) = true := by decide +kernel
theorem htJ5_append_c97b9 : mTC 15 false ((Option.some (Jvm.ClassFile.FieldType.object "java/lang/AbstractStringBuilder"))) cJ5_append_c97b9 tJ5_append_c97b9 := mTC_cons hkJ5_append_c97b9_0 (mTC_cons hkJ5_append_c97b9_1 (mTC_cons hkJ5_append_c97b9_2 (mTC_cons hkJ5_append_c97b9_3 (mTC_nil))))
theorem hkJ0_init_db425_0 : tJ0_init_db425_0.all (mchk 12 true ((Option.none : Option Jvm.ClassFile.FieldType)) cJ0_init_db425) = true := by decide +kernel
theorem hkJ0_init_db425_1 : tJ0_init_db425_1.all (mchk 12 true ((Option.none : Option Jvm.ClassFile.FieldType)) cJ0_init_db425) = true := by decide +kernel
theorem hkJ0_init_db425_2 : tJ0_init_db425_2.all (mchk 12 true ((Option.none : Option Jvm.ClassFile.FieldType)) cJ0_init_db425) = true := by decide +kernel
theorem hkJ0_init_db425_3 : tJ0_init_db425_3.all (mchk 12 true ((Option.none : Option Jvm.ClassFile.FieldType)) cJ0_init_db425) = true := by decide +kernel
theorem hkJ0_init_db425_4 : tJ0_init_db425_4.all (mchk 12 true ((Option.none : Option Jvm.ClassFile.FieldType)) cJ0_init_db425) = true := by decide +kernel
theorem htJ0_init_db425 : mTC 12 true ((Option.none : Option Jvm.ClassFile.FieldType)) cJ0_init_db425 tJ0_init_db425 := mTC_cons hkJ0_init_db425_0 (mTC_cons hkJ0_init_db425_1 (mTC_cons hkJ0_init_db425_2 (mTC_cons hkJ0_init_db425_3 (mTC_cons hkJ0_init_db425_4 (mTC_nil)))))
theorem hkJ0_init_81219_0 : tJ0_init_81219_0.all (mchk 12 true ((Option.none : Option Jvm.ClassFile.FieldType)) cJ0_init_81219) = true := by decide +kernel
theorem htJ0_init_81219 : mTC 12 true ((Option.none : Option Jvm.ClassFile.FieldType)) cJ0_init_81219 tJ0_init_81219 := mTC_cons hkJ0_init_81219_0 (mTC_nil)
theorem hkJ4_init_da8c8_0 : tJ4_init_da8c8_0.all (mchk 16 true ((Option.none : Option Jvm.ClassFile.FieldType)) cJ4_init_da8c8) = true := by decide +kernel
theorem htJ4_init_da8c8 : mTC 16 true ((Option.none : Option Jvm.ClassFile.FieldType)) cJ4_init_da8c8 tJ4_init_da8c8 := mTC_cons hkJ4_init_da8c8_0 (mTC_nil)
theorem hkJ4_append_15ec4_0 : tJ4_append_15ec4_0.all (mchk 16 false ((Option.some (Jvm.ClassFile.FieldType.object "java/lang/StringBuilder"))) cJ4_append_15ec4) = true := by decide +kernel
theorem htJ4_append_15ec4 : mTC 16 false ((Option.some (Jvm.ClassFile.FieldType.object "java/lang/StringBuilder"))) cJ4_append_15ec4 tJ4_append_15ec4 := mTC_cons hkJ4_append_15ec4_0 (mTC_nil)
theorem hkJ4_append_cf468_0 : tJ4_append_cf468_0.all (mchk 16 false ((Option.some (Jvm.ClassFile.FieldType.object "java/lang/StringBuilder"))) cJ4_append_cf468) = true := by decide +kernel
theorem htJ4_append_cf468 : mTC 16 false ((Option.some (Jvm.ClassFile.FieldType.object "java/lang/StringBuilder"))) cJ4_append_cf468 tJ4_append_cf468 := mTC_cons hkJ4_append_cf468_0 (mTC_nil)
theorem hkJ4_append_bf812_0 : tJ4_append_bf812_0.all (mchk 16 false ((Option.some (Jvm.ClassFile.FieldType.object "java/lang/StringBuilder"))) cJ4_append_bf812) = true := by decide +kernel
theorem htJ4_append_bf812 : mTC 16 false ((Option.some (Jvm.ClassFile.FieldType.object "java/lang/StringBuilder"))) cJ4_append_bf812 tJ4_append_bf812 := mTC_cons hkJ4_append_bf812_0 (mTC_nil)
theorem hkJ4_length_8abf5_0 : tJ4_length_8abf5_0.all (mchk 16 false ((Option.some Jvm.ClassFile.FieldType.int)) cJ4_length_8abf5) = true := by decide +kernel
theorem htJ4_length_8abf5 : mTC 16 false ((Option.some Jvm.ClassFile.FieldType.int)) cJ4_length_8abf5 tJ4_length_8abf5 := mTC_cons hkJ4_length_8abf5_0 (mTC_nil)
theorem hkJ4_toString_0e30d_0 : tJ4_toString_0e30d_0.all (mchk 16 false ((Option.some (Jvm.ClassFile.FieldType.object "java/lang/String"))) cJ4_toString_0e30d) = true := by decide +kernel
theorem htJ4_toString_0e30d : mTC 16 false ((Option.some (Jvm.ClassFile.FieldType.object "java/lang/String"))) cJ4_toString_0e30d tJ4_toString_0e30d := mTC_cons hkJ4_toString_0e30d_0 (mTC_nil)
