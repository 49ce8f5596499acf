theorem hkX7_init_0 : tX7_init_0.all (mchk 1 true ((Option.none : Option Jvm.ClassFile.FieldType)) cX7_init) = true := by decide +kernel
theorem hkX7_init_1 : tX7_init_1.all (mchk 1 true ((Option.none : Option Jvm.ClassFile.FieldType)) cX7_init) = true := by decide +kernel
theorem hkX7_init_2 : tX7_init_2.all (mchk 1 true ((Option.none : Option Jvm.ClassFile.FieldType)) cX7_init) = true := by decide +kernel
theorem hkX7_init_3 : tX7_init_3.all (mchk 1 true ((Option.none : Option Jvm.ClassFile.FieldType)) cX7_init) = true := by decide +kernel
theorem hkX7_init_4 : tX7_init_4.all (mchk 1 true ((Option.none : Option Jvm.ClassFile.FieldType)) cX7_init) = true := by decide +kernel
theorem hkX7_init_5 : tX7_init_5.all (mchk 1 true ((Option.none : Option Jvm.ClassFile.FieldType)) cX7_init) = true := by decide +kernel
theorem hkX7_init_6 : tX7_init_6.all (mchk 1 true ((Option.none : Option Jvm.ClassFile.FieldType)) cX7_init) = true := by decide +kernel
theorem hkX7_init_7 : tX7_init_7.all (mchk 1 true ((Option.none : Option Jvm.ClassFile.FieldType)) cX7_init) = true := by decide +kernel
theorem hkX7_init_8 : tX7_init_8.all (mchk 1 true ((Option.none : Option Jvm.ClassFile.FieldType)) cX7_init) = true := by decide +kernel
theorem htX7_init : mTC 1 true ((Option.none : Option Jvm.ClassFile.FieldType)) cX7_init tX7_init := mTC_cons hkX7_init_0 (mTC_cons hkX7_init_1 (mTC_cons hkX7_init_2 (mTC_cons hkX7_init_3 (mTC_cons hkX7_init_4 (mTC_cons hkX7_init_5 (mTC_cons hkX7_init_6 (mTC_cons hkX7_init_7 (mTC_cons hkX7_init_8 (mTC_nil)))))))))
theorem hkX7_bareRoots_0 : tX7_bareRoots_0.all (mchk 1 false ((Option.none : Option Jvm.ClassFile.FieldType)) cX7_bareRoots) = true := by decide +kernel
theorem hkX7_bareRoots_1 : tX7_bareRoots_1.all (mchk 1 false ((Option.none : Option Jvm.ClassFile.FieldType)) cX7_bareRoots) = true := by decide +kernel
theorem htX7_bareRoots : mTC 1 false ((Option.none : Option Jvm.ClassFile.FieldType)) cX7_bareRoots tX7_bareRoots := mTC_cons hkX7_bareRoots_0 (mTC_cons hkX7_bareRoots_1 (mTC_nil))
theorem hkX7_in_0 : tX7_in_0.all (mchk 1 false ((Option.some Jvm.ClassFile.FieldType.boolean)) cX7_in) = true := by decide +kernel
theorem htX7_in : mTC 1 false ((Option.some Jvm.ClassFile.FieldType.boolean)) cX7_in tX7_in := mTC_cons hkX7_in_0 (mTC_nil)
theorem hkX7_fail_0 : tX7_fail_0.all (mchk 1 false ((Option.some Jvm.ClassFile.FieldType.int)) cX7_fail) = true := by decide +kernel
theorem hkX7_fail_1 : tX7_fail_1.all (mchk 1 false ((Option.some Jvm.ClassFile.FieldType.int)) cX7_fail) = true := by decide +kernel
theorem htX7_fail : mTC 1 false ((Option.some Jvm.ClassFile.FieldType.int)) cX7_fail tX7_fail := mTC_cons hkX7_fail_0 (mTC_cons hkX7_fail_1 (mTC_nil))
theorem hkX7_isThere_0 : tX7_isThere_0.all (mchk 1 false ((Option.some Jvm.ClassFile.FieldType.boolean)) cX7_isThere) = true := by decide +kernel
theorem hkX7_isThere_1 : tX7_isThere_1.all (mchk 1 false ((Option.some Jvm.ClassFile.FieldType.boolean)) cX7_isThere) = true := by decide +kernel
theorem htX7_isThere : mTC 1 false ((Option.some Jvm.ClassFile.FieldType.boolean)) cX7_isThere tX7_isThere := mTC_cons hkX7_isThere_0 (mTC_cons hkX7_isThere_1 (mTC_nil))
theorem hkX7_isTarget_0 : tX7_isTarget_0.all (mchk 1 false ((Option.some Jvm.ClassFile.FieldType.boolean)) cX7_isTarget) = true := by decide +kernel
theorem hkX7_isTarget_1 : tX7_isTarget_1.all (mchk 1 false ((Option.some Jvm.ClassFile.FieldType.boolean)) cX7_isTarget) = true := by decide +kernel
theorem htX7_isTarget : mTC 1 false ((Option.some Jvm.ClassFile.FieldType.boolean)) cX7_isTarget tX7_isTarget := mTC_cons hkX7_isTarget_0 (mTC_cons hkX7_isTarget_1 (mTC_nil))
theorem hkX7_isYoung_0 : tX7_isYoung_0.all (mchk 1 false ((Option.some Jvm.ClassFile.FieldType.boolean)) cX7_isYoung) = true := by decide +kernel
theorem hkX7_isYoung_1 : tX7_isYoung_1.all (mchk 1 false ((Option.some Jvm.ClassFile.FieldType.boolean)) cX7_isYoung) = true := by decide +kernel
theorem htX7_isYoung : mTC 1 false ((Option.some Jvm.ClassFile.FieldType.boolean)) cX7_isYoung tX7_isYoung := mTC_cons hkX7_isYoung_0 (mTC_cons hkX7_isYoung_1 (mTC_nil))
theorem hkX7_isWhite_0 : tX7_isWhite_0.all (mchk 1 false ((Option.some Jvm.ClassFile.FieldType.boolean)) cX7_isWhite) = true := by decide +kernel
theorem hkX7_isWhite_1 : tX7_isWhite_1.all (mchk 1 false ((Option.some Jvm.ClassFile.FieldType.boolean)) cX7_isWhite) = true := by decide +kernel
theorem htX7_isWhite : mTC 1 false ((Option.some Jvm.ClassFile.FieldType.boolean)) cX7_isWhite tX7_isWhite := mTC_cons hkX7_isWhite_0 (mTC_cons hkX7_isWhite_1 (mTC_nil))
theorem hkX7_words_0 : tX7_words_0.all (mchk 1 false ((Option.some Jvm.ClassFile.FieldType.int)) cX7_words) = true := by decide +kernel
theorem hkX7_words_1 : tX7_words_1.all (mchk 1 false ((Option.some Jvm.ClassFile.FieldType.int)) cX7_words) = true := by decide +kernel
theorem hkX7_words_2 : tX7_words_2.all (mchk 1 false ((Option.some Jvm.ClassFile.FieldType.int)) cX7_words) = true := by decide +kernel
theorem htX7_words : mTC 1 false ((Option.some Jvm.ClassFile.FieldType.int)) cX7_words tX7_words := mTC_cons hkX7_words_0 (mTC_cons hkX7_words_1 (mTC_cons hkX7_words_2 (mTC_nil)))
theorem hkX7_thereAre_0 : tX7_thereAre_0.all (mchk 1 false ((Option.some Jvm.ClassFile.FieldType.int)) cX7_thereAre) = true := by decide +kernel
theorem hkX7_thereAre_1 : tX7_thereAre_1.all (mchk 1 false ((Option.some Jvm.ClassFile.FieldType.int)) cX7_thereAre) = true := by decide +kernel
theorem hkX7_thereAre_2 : tX7_thereAre_2.all (mchk 1 false ((Option.some Jvm.ClassFile.FieldType.int)) cX7_thereAre) = true := by decide +kernel
theorem htX7_thereAre : mTC 1 false ((Option.some Jvm.ClassFile.FieldType.int)) cX7_thereAre tX7_thereAre := mTC_cons hkX7_thereAre_0 (mTC_cons hkX7_thereAre_1 (mTC_cons hkX7_thereAre_2 (mTC_nil)))
theorem hkX7_reset_0 : tX7_reset_0.all (mchk 1 false ((Option.some Jvm.ClassFile.FieldType.int)) cX7_reset) = true := by decide +kernel
theorem hkX7_reset_1 : tX7_reset_1.all (mchk 1 false ((Option.some Jvm.ClassFile.FieldType.int)) cX7_reset) = true := by decide +kernel
theorem hkX7_reset_2 : tX7_reset_2.all (mchk 1 false ((Option.some Jvm.ClassFile.FieldType.int)) cX7_reset) = true := by decide +kernel
theorem hkX7_reset_3 : tX7_reset_3.all (mchk 1 false ((Option.some Jvm.ClassFile.FieldType.int)) cX7_reset) = true := by decide +kernel
theorem hkX7_reset_4 : tX7_reset_4.all (mchk 1 false ((Option.some Jvm.ClassFile.FieldType.int)) cX7_reset) = true := by decide +kernel
theorem hkX7_reset_5 : tX7_reset_5.all (mchk 1 false ((Option.some Jvm.ClassFile.FieldType.int)) cX7_reset) = true := by decide +kernel
theorem hkX7_reset_6 : tX7_reset_6.all (mchk 1 false ((Option.some Jvm.ClassFile.FieldType.int)) cX7_reset) = true := by decide +kernel
theorem hkX7_reset_7 : tX7_reset_7.all (mchk 1 false ((Option.some Jvm.ClassFile.FieldType.int)) cX7_reset) = true := by decide +kernel
theorem htX7_reset : mTC 1 false ((Option.some Jvm.ClassFile.FieldType.int)) cX7_reset tX7_reset := mTC_cons hkX7_reset_0 (mTC_cons hkX7_reset_1 (mTC_cons hkX7_reset_2 (mTC_cons hkX7_reset_3 (mTC_cons hkX7_reset_4 (mTC_cons hkX7_reset_5 (mTC_cons hkX7_reset_6 (mTC_cons hkX7_reset_7 (mTC_nil))))))))
theorem hkX7_allocate_0 : tX7_allocate_0.all (mchk 1 false ((Option.some Jvm.ClassFile.FieldType.int)) cX7_allocate) = true := by decide +kernel
theorem hkX7_allocate_1 : tX7_allocate_1.all (mchk 1 false ((Option.some Jvm.ClassFile.FieldType.int)) cX7_allocate) = true := by decide +kernel
theorem hkX7_allocate_2 : tX7_allocate_2.all (mchk 1 false ((Option.some Jvm.ClassFile.FieldType.int)) cX7_allocate) = true := by decide +kernel
theorem hkX7_allocate_3 : tX7_allocate_3.all (mchk 1 false ((Option.some Jvm.ClassFile.FieldType.int)) cX7_allocate) = true := by decide +kernel
theorem hkX7_allocate_4 : tX7_allocate_4.all (mchk 1 false ((Option.some Jvm.ClassFile.FieldType.int)) cX7_allocate) = true := by decide +kernel
theorem hkX7_allocate_5 : tX7_allocate_5.all (mchk 1 false ((Option.some Jvm.ClassFile.FieldType.int)) cX7_allocate) = true := by decide +kernel
theorem hkX7_allocate_6 : tX7_allocate_6.all (mchk 1 false ((Option.some Jvm.ClassFile.FieldType.int)) cX7_allocate) = true := by decide +kernel
theorem hkX7_allocate_7 : tX7_allocate_7.all (mchk 1 false ((Option.some Jvm.ClassFile.FieldType.int)) cX7_allocate) = true := by decide +kernel
theorem hkX7_allocate_8 : tX7_allocate_8.all (mchk 1 false ((Option.some Jvm.ClassFile.FieldType.int)) cX7_allocate) = true := by decide +kernel
theorem htX7_allocate : mTC 1 false ((Option.some Jvm.ClassFile.FieldType.int)) cX7_allocate tX7_allocate := mTC_cons hkX7_allocate_0 (mTC_cons hkX7_allocate_1 (mTC_cons hkX7_allocate_2 (mTC_cons hkX7_allocate_3 (mTC_cons hkX7_allocate_4 (mTC_cons hkX7_allocate_5 (mTC_cons hkX7_allocate_6 (mTC_cons hkX7_allocate_7 (mTC_cons hkX7_allocate_8 (mTC_nil)))))))))
theorem hkX7_becomesGrey_0 : tX7_becomesGrey_0.all (mchk 1 false ((Option.none : Option Jvm.ClassFile.FieldType)) cX7_becomesGrey) = true := by decide +kernel
theorem hkX7_becomesGrey_1 : tX7_becomesGrey_1.all (mchk 1 false ((Option.none : Option Jvm.ClassFile.FieldType)) cX7_becomesGrey) = true := by decide +kernel
theorem htX7_becomesGrey : mTC 1 false ((Option.none : Option Jvm.ClassFile.FieldType)) cX7_becomesGrey tX7_becomesGrey := mTC_cons hkX7_becomesGrey_0 (mTC_cons hkX7_becomesGrey_1 (mTC_nil))
theorem hkX7_shade_0 : tX7_shade_0.all (mchk 1 false ((Option.none : Option Jvm.ClassFile.FieldType)) cX7_shade) = true := by decide +kernel
theorem htX7_shade : mTC 1 false ((Option.none : Option Jvm.ClassFile.FieldType)) cX7_shade tX7_shade := mTC_cons hkX7_shade_0 (mTC_nil)
theorem hkX7_remember_0 : tX7_remember_0.all (mchk 1 false ((Option.none : Option Jvm.ClassFile.FieldType)) cX7_remember) = true := by decide +kernel
theorem hkX7_remember_1 : tX7_remember_1.all (mchk 1 false ((Option.none : Option Jvm.ClassFile.FieldType)) cX7_remember) = true := by decide +kernel
theorem hkX7_remember_2 : tX7_remember_2.all (mchk 1 false ((Option.none : Option Jvm.ClassFile.FieldType)) cX7_remember) = true := by decide +kernel
theorem htX7_remember : mTC 1 false ((Option.none : Option Jvm.ClassFile.FieldType)) cX7_remember tX7_remember := mTC_cons hkX7_remember_0 (mTC_cons hkX7_remember_1 (mTC_cons hkX7_remember_2 (mTC_nil)))
theorem hkX7_isField_0 : tX7_isField_0.all (mchk 1 false ((Option.some Jvm.ClassFile.FieldType.boolean)) cX7_isField) = true := by decide +kernel
theorem hkX7_isField_1 : tX7_isField_1.all (mchk 1 false ((Option.some Jvm.ClassFile.FieldType.boolean)) cX7_isField) = true := by decide +kernel
theorem htX7_isField : mTC 1 false ((Option.some Jvm.ClassFile.FieldType.boolean)) cX7_isField tX7_isField := mTC_cons hkX7_isField_0 (mTC_cons hkX7_isField_1 (mTC_nil))
theorem hkX7_write_0 : tX7_write_0.all (mchk 1 false ((Option.some Jvm.ClassFile.FieldType.int)) cX7_write) = true := by decide +kernel
theorem hkX7_write_1 : tX7_write_1.all (mchk 1 false ((Option.some Jvm.ClassFile.FieldType.int)) cX7_write) = true := by decide +kernel
theorem hkX7_write_2 : tX7_write_2.all (mchk 1 false ((Option.some Jvm.ClassFile.FieldType.int)) cX7_write) = true := by decide +kernel
theorem hkX7_write_3 : tX7_write_3.all (mchk 1 false ((Option.some Jvm.ClassFile.FieldType.int)) cX7_write) = true := by decide +kernel
theorem hkX7_write_4 : tX7_write_4.all (mchk 1 false ((Option.some Jvm.ClassFile.FieldType.int)) cX7_write) = true := by decide +kernel
theorem hkX7_write_5 : tX7_write_5.all (mchk 1 false ((Option.some Jvm.ClassFile.FieldType.int)) cX7_write) = true := by decide +kernel
theorem hkX7_write_6 : tX7_write_6.all (mchk 1 false ((Option.some Jvm.ClassFile.FieldType.int)) cX7_write) = true := by decide +kernel
theorem htX7_write : mTC 1 false ((Option.some Jvm.ClassFile.FieldType.int)) cX7_write tX7_write := mTC_cons hkX7_write_0 (mTC_cons hkX7_write_1 (mTC_cons hkX7_write_2 (mTC_cons hkX7_write_3 (mTC_cons hkX7_write_4 (mTC_cons hkX7_write_5 (mTC_cons hkX7_write_6 (mTC_nil)))))))
theorem hkX7_setRoot_0 : tX7_setRoot_0.all (mchk 1 false ((Option.some Jvm.ClassFile.FieldType.int)) cX7_setRoot) = true := by decide +kernel
theorem hkX7_setRoot_1 : tX7_setRoot_1.all (mchk 1 false ((Option.some Jvm.ClassFile.FieldType.int)) cX7_setRoot) = true := by decide +kernel
theorem hkX7_setRoot_2 : tX7_setRoot_2.all (mchk 1 false ((Option.some Jvm.ClassFile.FieldType.int)) cX7_setRoot) = true := by decide +kernel
theorem hkX7_setRoot_3 : tX7_setRoot_3.all (mchk 1 false ((Option.some Jvm.ClassFile.FieldType.int)) cX7_setRoot) = true := by decide +kernel
theorem hkX7_setRoot_4 : tX7_setRoot_4.all (mchk 1 false ((Option.some Jvm.ClassFile.FieldType.int)) cX7_setRoot) = true := by decide +kernel
theorem htX7_setRoot : mTC 1 false ((Option.some Jvm.ClassFile.FieldType.int)) cX7_setRoot tX7_setRoot := mTC_cons hkX7_setRoot_0 (mTC_cons hkX7_setRoot_1 (mTC_cons hkX7_setRoot_2 (mTC_cons hkX7_setRoot_3 (mTC_cons hkX7_setRoot_4 (mTC_nil)))))
theorem hkX7_visit_0 : tX7_visit_0.all (mchk 1 false ((Option.none : Option Jvm.ClassFile.FieldType)) cX7_visit) = true := by decide +kernel
theorem hkX7_visit_1 : tX7_visit_1.all (mchk 1 false ((Option.none : Option Jvm.ClassFile.FieldType)) cX7_visit) = true := by decide +kernel
theorem hkX7_visit_2 : tX7_visit_2.all (mchk 1 false ((Option.none : Option Jvm.ClassFile.FieldType)) cX7_visit) = true := by decide +kernel
theorem htX7_visit : mTC 1 false ((Option.none : Option Jvm.ClassFile.FieldType)) cX7_visit tX7_visit := mTC_cons hkX7_visit_0 (mTC_cons hkX7_visit_1 (mTC_cons hkX7_visit_2 (mTC_nil)))
theorem hkX7_visitFields_0 : tX7_visitFields_0.all (mchk 1 false ((Option.none : Option Jvm.ClassFile.FieldType)) cX7_visitFields) = true := by decide +kernel
theorem hkX7_visitFields_1 : tX7_visitFields_1.all (mchk 1 false ((Option.none : Option Jvm.ClassFile.FieldType)) cX7_visitFields) = true := by decide +kernel
theorem hkX7_visitFields_2 : tX7_visitFields_2.all (mchk 1 false ((Option.none : Option Jvm.ClassFile.FieldType)) cX7_visitFields) = true := by decide +kernel
theorem htX7_visitFields : mTC 1 false ((Option.none : Option Jvm.ClassFile.FieldType)) cX7_visitFields tX7_visitFields := mTC_cons hkX7_visitFields_0 (mTC_cons hkX7_visitFields_1 (mTC_cons hkX7_visitFields_2 (mTC_nil)))
theorem hkX7_trace_0 : tX7_trace_0.all (mchk 1 false ((Option.none : Option Jvm.ClassFile.FieldType)) cX7_trace) = true := by decide +kernel
theorem hkX7_trace_1 : tX7_trace_1.all (mchk 1 false ((Option.none : Option Jvm.ClassFile.FieldType)) cX7_trace) = true := by decide +kernel
theorem hkX7_trace_2 : tX7_trace_2.all (mchk 1 false ((Option.none : Option Jvm.ClassFile.FieldType)) cX7_trace) = true := by decide +kernel
theorem hkX7_trace_3 : tX7_trace_3.all (mchk 1 false ((Option.none : Option Jvm.ClassFile.FieldType)) cX7_trace) = true := by decide +kernel
theorem hkX7_trace_4 : tX7_trace_4.all (mchk 1 false ((Option.none : Option Jvm.ClassFile.FieldType)) cX7_trace) = true := by decide +kernel
theorem hkX7_trace_5 : tX7_trace_5.all (mchk 1 false ((Option.none : Option Jvm.ClassFile.FieldType)) cX7_trace) = true := by decide +kernel
theorem htX7_trace : mTC 1 false ((Option.none : Option Jvm.ClassFile.FieldType)) cX7_trace tX7_trace := mTC_cons hkX7_trace_0 (mTC_cons hkX7_trace_1 (mTC_cons hkX7_trace_2 (mTC_cons hkX7_trace_3 (mTC_cons hkX7_trace_4 (mTC_cons hkX7_trace_5 (mTC_nil))))))
theorem hkX7_promote_0 : tX7_promote_0.all (mchk 1 false ((Option.none : Option Jvm.ClassFile.FieldType)) cX7_promote) = true := by decide +kernel
theorem hkX7_promote_1 : tX7_promote_1.all (mchk 1 false ((Option.none : Option Jvm.ClassFile.FieldType)) cX7_promote) = true := by decide +kernel
theorem hkX7_promote_2 : tX7_promote_2.all (mchk 1 false ((Option.none : Option Jvm.ClassFile.FieldType)) cX7_promote) = true := by decide +kernel
theorem htX7_promote : mTC 1 false ((Option.none : Option Jvm.ClassFile.FieldType)) cX7_promote tX7_promote := mTC_cons hkX7_promote_0 (mTC_cons hkX7_promote_1 (mTC_cons hkX7_promote_2 (mTC_nil)))
theorem hkX7_hasYoung_0 : tX7_hasYoung_0.all (mchk 1 false ((Option.some Jvm.ClassFile.FieldType.boolean)) cX7_hasYoung) = true := by decide +kernel
theorem hkX7_hasYoung_1 : tX7_hasYoung_1.all (mchk 1 false ((Option.some Jvm.ClassFile.FieldType.boolean)) cX7_hasYoung) = true := by decide +kernel
theorem hkX7_hasYoung_2 : tX7_hasYoung_2.all (mchk 1 false ((Option.some Jvm.ClassFile.FieldType.boolean)) cX7_hasYoung) = true := by decide +kernel
theorem hkX7_hasYoung_3 : tX7_hasYoung_3.all (mchk 1 false ((Option.some Jvm.ClassFile.FieldType.boolean)) cX7_hasYoung) = true := by decide +kernel
theorem htX7_hasYoung : mTC 1 false ((Option.some Jvm.ClassFile.FieldType.boolean)) cX7_hasYoung tX7_hasYoung := mTC_cons hkX7_hasYoung_0 (mTC_cons hkX7_hasYoung_1 (mTC_cons hkX7_hasYoung_2 (mTC_cons hkX7_hasYoung_3 (mTC_nil))))
theorem hkX7_keepRemembered_0 : tX7_keepRemembered_0.all (mchk 1 false ((Option.none : Option Jvm.ClassFile.FieldType)) cX7_keepRemembered) = true := by decide +kernel
theorem hkX7_keepRemembered_1 : tX7_keepRemembered_1.all (mchk 1 false ((Option.none : Option Jvm.ClassFile.FieldType)) cX7_keepRemembered) = true := by decide +kernel
theorem hkX7_keepRemembered_2 : tX7_keepRemembered_2.all (mchk 1 false ((Option.none : Option Jvm.ClassFile.FieldType)) cX7_keepRemembered) = true := by decide +kernel
theorem hkX7_keepRemembered_3 : tX7_keepRemembered_3.all (mchk 1 false ((Option.none : Option Jvm.ClassFile.FieldType)) cX7_keepRemembered) = true := by decide +kernel
theorem hkX7_keepRemembered_4 : tX7_keepRemembered_4.all (mchk 1 false ((Option.none : Option Jvm.ClassFile.FieldType)) cX7_keepRemembered) = true := by decide +kernel
theorem hkX7_keepRemembered_5 : tX7_keepRemembered_5.all (mchk 1 false ((Option.none : Option Jvm.ClassFile.FieldType)) cX7_keepRemembered) = true := by decide +kernel
theorem hkX7_keepRemembered_6 : tX7_keepRemembered_6.all (mchk 1 false ((Option.none : Option Jvm.ClassFile.FieldType)) cX7_keepRemembered) = true := by decide +kernel
theorem htX7_keepRemembered : mTC 1 false ((Option.none : Option Jvm.ClassFile.FieldType)) cX7_keepRemembered tX7_keepRemembered := mTC_cons hkX7_keepRemembered_0 (mTC_cons hkX7_keepRemembered_1 (mTC_cons hkX7_keepRemembered_2 (mTC_cons hkX7_keepRemembered_3 (mTC_cons hkX7_keepRemembered_4 (mTC_cons hkX7_keepRemembered_5 (mTC_cons hkX7_keepRemembered_6 (mTC_nil)))))))
theorem hkX7_minorCollection_0 : tX7_minorCollection_0.all (mchk 1 false ((Option.some Jvm.ClassFile.FieldType.int)) cX7_minorCollection) = true := by decide +kernel
theorem hkX7_minorCollection_1 : tX7_minorCollection_1.all (mchk 1 false ((Option.some Jvm.ClassFile.FieldType.int)) cX7_minorCollection) = true := by decide +kernel
theorem hkX7_minorCollection_2 : tX7_minorCollection_2.all (mchk 1 false ((Option.some Jvm.ClassFile.FieldType.int)) cX7_minorCollection) = true := by decide +kernel
theorem hkX7_minorCollection_3 : tX7_minorCollection_3.all (mchk 1 false ((Option.some Jvm.ClassFile.FieldType.int)) cX7_minorCollection) = true := by decide +kernel
theorem hkX7_minorCollection_4 : tX7_minorCollection_4.all (mchk 1 false ((Option.some Jvm.ClassFile.FieldType.int)) cX7_minorCollection) = true := by decide +kernel
theorem hkX7_minorCollection_5 : tX7_minorCollection_5.all (mchk 1 false ((Option.some Jvm.ClassFile.FieldType.int)) cX7_minorCollection) = true := by decide +kernel
theorem hkX7_minorCollection_6 : tX7_minorCollection_6.all (mchk 1 false ((Option.some Jvm.ClassFile.FieldType.int)) cX7_minorCollection) = true := by decide +kernel
theorem hkX7_minorCollection_7 : tX7_minorCollection_7.all (mchk 1 false ((Option.some Jvm.ClassFile.FieldType.int)) cX7_minorCollection) = true := by decide +kernel
theorem hkX7_minorCollection_8 : tX7_minorCollection_8.all (mchk 1 false ((Option.some Jvm.ClassFile.FieldType.int)) cX7_minorCollection) = true := by decide +kernel
theorem hkX7_minorCollection_9 : tX7_minorCollection_9.all (mchk 1 false ((Option.some Jvm.ClassFile.FieldType.int)) cX7_minorCollection) = true := by decide +kernel
theorem hkX7_minorCollection_10 : tX7_minorCollection_10.all (mchk 1 false ((Option.some Jvm.ClassFile.FieldType.int)) cX7_minorCollection) = true := by decide +kernel
theorem hkX7_minorCollection_11 : tX7_minorCollection_11.all (mchk 1 false ((Option.some Jvm.ClassFile.FieldType.int)) cX7_minorCollection) = true := by decide +kernel
theorem hkX7_minorCollection_12 : tX7_minorCollection_12.all (mchk 1 false ((Option.some Jvm.ClassFile.FieldType.int)) cX7_minorCollection) = true := by decide +kernel
theorem htX7_minorCollection : mTC 1 false ((Option.some Jvm.ClassFile.FieldType.int)) cX7_minorCollection tX7_minorCollection := mTC_cons hkX7_minorCollection_0 (mTC_cons hkX7_minorCollection_1 (mTC_cons hkX7_minorCollection_2 (mTC_cons hkX7_minorCollection_3 (mTC_cons hkX7_minorCollection_4 (mTC_cons hkX7_minorCollection_5 (mTC_cons hkX7_minorCollection_6 (mTC_cons hkX7_minorCollection_7 (mTC_cons hkX7_minorCollection_8 (mTC_cons hkX7_minorCollection_9 (mTC_cons hkX7_minorCollection_10 (mTC_cons hkX7_minorCollection_11 (mTC_cons hkX7_minorCollection_12 (mTC_nil)))))))))))))
theorem hkX7_shadeFields_0 : tX7_shadeFields_0.all (mchk 1 false ((Option.none : Option Jvm.ClassFile.FieldType)) cX7_shadeFields) = true := by decide +kernel
theorem hkX7_shadeFields_1 : tX7_shadeFields_1.all (mchk 1 false ((Option.none : Option Jvm.ClassFile.FieldType)) cX7_shadeFields) = true := by decide +kernel
theorem hkX7_shadeFields_2 : tX7_shadeFields_2.all (mchk 1 false ((Option.none : Option Jvm.ClassFile.FieldType)) cX7_shadeFields) = true := by decide +kernel
theorem htX7_shadeFields : mTC 1 false ((Option.none : Option Jvm.ClassFile.FieldType)) cX7_shadeFields tX7_shadeFields := mTC_cons hkX7_shadeFields_0 (mTC_cons hkX7_shadeFields_1 (mTC_cons hkX7_shadeFields_2 (mTC_nil)))
theorem hkX7_rootScan_0 : tX7_rootScan_0.all (mchk 1 false ((Option.none : Option Jvm.ClassFile.FieldType)) cX7_rootScan) = true := by decide +kernel
theorem hkX7_rootScan_1 : tX7_rootScan_1.all (mchk 1 false ((Option.none : Option Jvm.ClassFile.FieldType)) cX7_rootScan) = true := by decide +kernel
theorem hkX7_rootScan_2 : tX7_rootScan_2.all (mchk 1 false ((Option.none : Option Jvm.ClassFile.FieldType)) cX7_rootScan) = true := by decide +kernel
