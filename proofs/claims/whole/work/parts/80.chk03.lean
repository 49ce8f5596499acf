theorem htX4_create : mTC 3 false ((Option.some Jvm.ClassFile.FieldType.int)) cX4_create tX4_create := mTC_cons hkX4_create_0 (mTC_cons hkX4_create_1 (mTC_cons hkX4_create_2 (mTC_cons hkX4_create_3 (mTC_cons hkX4_create_4 (mTC_cons hkX4_create_5 (mTC_nil))))))
theorem hkX4_growOlder_0 : tX4_growOlder_0.all (mchk 3 false ((Option.none : Option Jvm.ClassFile.FieldType)) cX4_growOlder) = true := by decide +kernel
theorem hkX4_growOlder_1 : tX4_growOlder_1.all (mchk 3 false ((Option.none : Option Jvm.ClassFile.FieldType)) cX4_growOlder) = true := by decide +kernel
theorem htX4_growOlder : mTC 3 false ((Option.none : Option Jvm.ClassFile.FieldType)) cX4_growOlder tX4_growOlder := mTC_cons hkX4_growOlder_0 (mTC_cons hkX4_growOlder_1 (mTC_nil))
theorem hkX4_paint_0 : tX4_paint_0.all (mchk 3 false ((Option.none : Option Jvm.ClassFile.FieldType)) cX4_paint) = true := by decide +kernel
theorem hkX4_paint_1 : tX4_paint_1.all (mchk 3 false ((Option.none : Option Jvm.ClassFile.FieldType)) cX4_paint) = true := by decide +kernel
theorem htX4_paint : mTC 3 false ((Option.none : Option Jvm.ClassFile.FieldType)) cX4_paint tX4_paint := mTC_cons hkX4_paint_0 (mTC_cons hkX4_paint_1 (mTC_nil))
theorem hkX4_promote_0 : tX4_promote_0.all (mchk 3 false ((Option.none : Option Jvm.ClassFile.FieldType)) cX4_promote) = true := by decide +kernel
theorem hkX4_promote_1 : tX4_promote_1.all (mchk 3 false ((Option.none : Option Jvm.ClassFile.FieldType)) cX4_promote) = true := by decide +kernel
theorem hkX4_promote_2 : tX4_promote_2.all (mchk 3 false ((Option.none : Option Jvm.ClassFile.FieldType)) cX4_promote) = true := by decide +kernel
theorem hkX4_promote_3 : tX4_promote_3.all (mchk 3 false ((Option.none : Option Jvm.ClassFile.FieldType)) cX4_promote) = true := by decide +kernel
theorem htX4_promote : mTC 3 false ((Option.none : Option Jvm.ClassFile.FieldType)) cX4_promote tX4_promote := mTC_cons hkX4_promote_0 (mTC_cons hkX4_promote_1 (mTC_cons hkX4_promote_2 (mTC_cons hkX4_promote_3 (mTC_nil))))
theorem hkX4_free_0 : tX4_free_0.all (mchk 3 false ((Option.none : Option Jvm.ClassFile.FieldType)) cX4_free) = true := by decide +kernel
theorem hkX4_free_1 : tX4_free_1.all (mchk 3 false ((Option.none : Option Jvm.ClassFile.FieldType)) cX4_free) = true := by decide +kernel
theorem hkX4_free_2 : tX4_free_2.all (mchk 3 false ((Option.none : Option Jvm.ClassFile.FieldType)) cX4_free) = true := by decide +kernel
theorem hkX4_free_3 : tX4_free_3.all (mchk 3 false ((Option.none : Option Jvm.ClassFile.FieldType)) cX4_free) = true := by decide +kernel
theorem hkX4_free_4 : tX4_free_4.all (mchk 3 false ((Option.none : Option Jvm.ClassFile.FieldType)) cX4_free) = true := by decide +kernel
theorem htX4_free : mTC 3 false ((Option.none : Option Jvm.ClassFile.FieldType)) cX4_free tX4_free := mTC_cons hkX4_free_0 (mTC_cons hkX4_free_1 (mTC_cons hkX4_free_2 (mTC_cons hkX4_free_3 (mTC_cons hkX4_free_4 (mTC_nil)))))
theorem hkX0_init_0 : tX0_init_0.all (mchk 4 true ((Option.none : Option Jvm.ClassFile.FieldType)) cX0_init) = true := by decide +kernel
theorem hkX0_init_1 : tX0_init_1.all (mchk 4 true ((Option.none : Option Jvm.ClassFile.FieldType)) cX0_init) = true := by decide +kernel
theorem hkX0_init_2 : tX0_init_2.all (mchk 4 true ((Option.none : Option Jvm.ClassFile.FieldType)) cX0_init) = true := by decide +kernel
theorem hkX0_init_3 : tX0_init_3.all (mchk 4 true ((Option.none : Option Jvm.ClassFile.FieldType)) cX0_init) = true := by decide +kernel
theorem htX0_init : mTC 4 true ((Option.none : Option Jvm.ClassFile.FieldType)) cX0_init tX0_init := mTC_cons hkX0_init_0 (mTC_cons hkX0_init_1 (mTC_cons hkX0_init_2 (mTC_cons hkX0_init_3 (mTC_nil))))
theorem hkX0_restart_0 : tX0_restart_0.all (mchk 4 false ((Option.none : Option Jvm.ClassFile.FieldType)) cX0_restart) = true := by decide +kernel
theorem hkX0_restart_1 : tX0_restart_1.all (mchk 4 false ((Option.none : Option Jvm.ClassFile.FieldType)) cX0_restart) = true := by decide +kernel
theorem hkX0_restart_2 : tX0_restart_2.all (mchk 4 false ((Option.none : Option Jvm.ClassFile.FieldType)) cX0_restart) = true := by decide +kernel
theorem htX0_restart : mTC 4 false ((Option.none : Option Jvm.ClassFile.FieldType)) cX0_restart tX0_restart := mTC_cons hkX0_restart_0 (mTC_cons hkX0_restart_1 (mTC_cons hkX0_restart_2 (mTC_nil)))
theorem hkX0_table_0 : tX0_table_0.all (mchk 4 false ((Option.some (Jvm.ClassFile.FieldType.object "GenerationalHeap$ObjectTable"))) cX0_table) = true := by decide +kernel
theorem htX0_table : mTC 4 false ((Option.some (Jvm.ClassFile.FieldType.object "GenerationalHeap$ObjectTable"))) cX0_table tX0_table := mTC_cons hkX0_table_0 (mTC_nil)
theorem hkX0_nursery_0 : tX0_nursery_0.all (mchk 4 false ((Option.some (Jvm.ClassFile.FieldType.object "GenerationalHeap$IdList"))) cX0_nursery) = true := by decide +kernel
theorem htX0_nursery : mTC 4 false ((Option.some (Jvm.ClassFile.FieldType.object "GenerationalHeap$IdList"))) cX0_nursery tX0_nursery := mTC_cons hkX0_nursery_0 (mTC_nil)
theorem hkX0_rememberedSet_0 : tX0_rememberedSet_0.all (mchk 4 false ((Option.some (Jvm.ClassFile.FieldType.object "GenerationalHeap$IdList"))) cX0_rememberedSet) = true := by decide +kernel
theorem htX0_rememberedSet : mTC 4 false ((Option.some (Jvm.ClassFile.FieldType.object "GenerationalHeap$IdList"))) cX0_rememberedSet tX0_rememberedSet := mTC_cons hkX0_rememberedSet_0 (mTC_nil)
theorem hkX0_isTenured_0 : tX0_isTenured_0.all (mchk 4 false ((Option.some Jvm.ClassFile.FieldType.boolean)) cX0_isTenured) = true := by decide +kernel
theorem hkX0_isTenured_1 : tX0_isTenured_1.all (mchk 4 false ((Option.some Jvm.ClassFile.FieldType.boolean)) cX0_isTenured) = true := by decide +kernel
theorem htX0_isTenured : mTC 4 false ((Option.some Jvm.ClassFile.FieldType.boolean)) cX0_isTenured tX0_isTenured := mTC_cons hkX0_isTenured_0 (mTC_cons hkX0_isTenured_1 (mTC_nil))
theorem hkX0_hasOldRoomFor_0 : tX0_hasOldRoomFor_0.all (mchk 4 false ((Option.some Jvm.ClassFile.FieldType.boolean)) cX0_hasOldRoomFor) = true := by decide +kernel
theorem hkX0_hasOldRoomFor_1 : tX0_hasOldRoomFor_1.all (mchk 4 false ((Option.some Jvm.ClassFile.FieldType.boolean)) cX0_hasOldRoomFor) = true := by decide +kernel
theorem htX0_hasOldRoomFor : mTC 4 false ((Option.some Jvm.ClassFile.FieldType.boolean)) cX0_hasOldRoomFor tX0_hasOldRoomFor := mTC_cons hkX0_hasOldRoomFor_0 (mTC_cons hkX0_hasOldRoomFor_1 (mTC_nil))
theorem hkX0_place_0 : tX0_place_0.all (mchk 4 false ((Option.some Jvm.ClassFile.FieldType.int)) cX0_place) = true := by decide +kernel
theorem hkX0_place_1 : tX0_place_1.all (mchk 4 false ((Option.some Jvm.ClassFile.FieldType.int)) cX0_place) = true := by decide +kernel
theorem hkX0_place_2 : tX0_place_2.all (mchk 4 false ((Option.some Jvm.ClassFile.FieldType.int)) cX0_place) = true := by decide +kernel
theorem hkX0_place_3 : tX0_place_3.all (mchk 4 false ((Option.some Jvm.ClassFile.FieldType.int)) cX0_place) = true := by decide +kernel
theorem hkX0_place_4 : tX0_place_4.all (mchk 4 false ((Option.some Jvm.ClassFile.FieldType.int)) cX0_place) = true := by decide +kernel
theorem htX0_place : mTC 4 false ((Option.some Jvm.ClassFile.FieldType.int)) cX0_place tX0_place := mTC_cons hkX0_place_0 (mTC_cons hkX0_place_1 (mTC_cons hkX0_place_2 (mTC_cons hkX0_place_3 (mTC_cons hkX0_place_4 (mTC_nil)))))
theorem hkX0_hasRoot_0 : tX0_hasRoot_0.all (mchk 4 false ((Option.some Jvm.ClassFile.FieldType.boolean)) cX0_hasRoot) = true := by decide +kernel
theorem htX0_hasRoot : mTC 4 false ((Option.some Jvm.ClassFile.FieldType.boolean)) cX0_hasRoot tX0_hasRoot := mTC_cons hkX0_hasRoot_0 (mTC_nil)
theorem hkX0_rootAt_0 : tX0_rootAt_0.all (mchk 4 false ((Option.some Jvm.ClassFile.FieldType.int)) cX0_rootAt) = true := by decide +kernel
theorem hkX0_rootAt_1 : tX0_rootAt_1.all (mchk 4 false ((Option.some Jvm.ClassFile.FieldType.int)) cX0_rootAt) = true := by decide +kernel
theorem htX0_rootAt : mTC 4 false ((Option.some Jvm.ClassFile.FieldType.int)) cX0_rootAt tX0_rootAt := mTC_cons hkX0_rootAt_0 (mTC_cons hkX0_rootAt_1 (mTC_nil))
theorem hkX0_putRoot_0 : tX0_putRoot_0.all (mchk 4 false ((Option.none : Option Jvm.ClassFile.FieldType)) cX0_putRoot) = true := by decide +kernel
theorem htX0_putRoot : mTC 4 false ((Option.none : Option Jvm.ClassFile.FieldType)) cX0_putRoot tX0_putRoot := mTC_cons hkX0_putRoot_0 (mTC_nil)
theorem hkX0_putField_0 : tX0_putField_0.all (mchk 4 false ((Option.none : Option Jvm.ClassFile.FieldType)) cX0_putField) = true := by decide +kernel
theorem hkX0_putField_1 : tX0_putField_1.all (mchk 4 false ((Option.none : Option Jvm.ClassFile.FieldType)) cX0_putField) = true := by decide +kernel
theorem hkX0_putField_2 : tX0_putField_2.all (mchk 4 false ((Option.none : Option Jvm.ClassFile.FieldType)) cX0_putField) = true := by decide +kernel
theorem htX0_putField : mTC 4 false ((Option.none : Option Jvm.ClassFile.FieldType)) cX0_putField tX0_putField := mTC_cons hkX0_putField_0 (mTC_cons hkX0_putField_1 (mTC_cons hkX0_putField_2 (mTC_nil)))
theorem hkX0_countReachable_0 : tX0_countReachable_0.all (mchk 4 false ((Option.some Jvm.ClassFile.FieldType.int)) cX0_countReachable) = true := by decide +kernel
theorem hkX0_countReachable_1 : tX0_countReachable_1.all (mchk 4 false ((Option.some Jvm.ClassFile.FieldType.int)) cX0_countReachable) = true := by decide +kernel
theorem hkX0_countReachable_2 : tX0_countReachable_2.all (mchk 4 false ((Option.some Jvm.ClassFile.FieldType.int)) cX0_countReachable) = true := by decide +kernel
theorem hkX0_countReachable_3 : tX0_countReachable_3.all (mchk 4 false ((Option.some Jvm.ClassFile.FieldType.int)) cX0_countReachable) = true := by decide +kernel
theorem hkX0_countReachable_4 : tX0_countReachable_4.all (mchk 4 false ((Option.some Jvm.ClassFile.FieldType.int)) cX0_countReachable) = true := by decide +kernel
theorem hkX0_countReachable_5 : tX0_countReachable_5.all (mchk 4 false ((Option.some Jvm.ClassFile.FieldType.int)) cX0_countReachable) = true := by decide +kernel
theorem htX0_countReachable : mTC 4 false ((Option.some Jvm.ClassFile.FieldType.int)) cX0_countReachable tX0_countReachable := mTC_cons hkX0_countReachable_0 (mTC_cons hkX0_countReachable_1 (mTC_cons hkX0_countReachable_2 (mTC_cons hkX0_countReachable_3 (mTC_cons hkX0_countReachable_4 (mTC_cons hkX0_countReachable_5 (mTC_nil))))))
theorem hkX0_reach_0 : tX0_reach_0.all (mchk 4 false ((Option.none : Option Jvm.ClassFile.FieldType)) cX0_reach) = true := by decide +kernel
theorem htX0_reach : mTC 4 false ((Option.none : Option Jvm.ClassFile.FieldType)) cX0_reach tX0_reach := mTC_cons hkX0_reach_0 (mTC_nil)
theorem hkX2_init_0 : tX2_init_0.all (mchk 5 true ((Option.none : Option Jvm.ClassFile.FieldType)) cX2_init) = true := by decide +kernel
theorem hkX2_init_1 : tX2_init_1.all (mchk 5 true ((Option.none : Option Jvm.ClassFile.FieldType)) cX2_init) = true := by decide +kernel
theorem hkX2_init_2 : tX2_init_2.all (mchk 5 true ((Option.none : Option Jvm.ClassFile.FieldType)) cX2_init) = true := by decide +kernel
theorem htX2_init : mTC 5 true ((Option.none : Option Jvm.ClassFile.FieldType)) cX2_init tX2_init := mTC_cons hkX2_init_0 (mTC_cons hkX2_init_1 (mTC_cons hkX2_init_2 (mTC_nil)))
theorem hkX2_restart_0 : tX2_restart_0.all (mchk 5 false ((Option.none : Option Jvm.ClassFile.FieldType)) cX2_restart) = true := by decide +kernel
theorem hkX2_restart_1 : tX2_restart_1.all (mchk 5 false ((Option.none : Option Jvm.ClassFile.FieldType)) cX2_restart) = true := by decide +kernel
theorem htX2_restart : mTC 5 false ((Option.none : Option Jvm.ClassFile.FieldType)) cX2_restart tX2_restart := mTC_cons hkX2_restart_0 (mTC_cons hkX2_restart_1 (mTC_nil))
theorem hkX2_currentPhase_0 : tX2_currentPhase_0.all (mchk 5 false ((Option.some Jvm.ClassFile.FieldType.int)) cX2_currentPhase) = true := by decide +kernel
theorem htX2_currentPhase : mTC 5 false ((Option.some Jvm.ClassFile.FieldType.int)) cX2_currentPhase tX2_currentPhase := mTC_cons hkX2_currentPhase_0 (mTC_nil)
theorem hkX2_greyObjects_0 : tX2_greyObjects_0.all (mchk 5 false ((Option.some Jvm.ClassFile.FieldType.int)) cX2_greyObjects) = true := by decide +kernel
theorem htX2_greyObjects : mTC 5 false ((Option.some Jvm.ClassFile.FieldType.int)) cX2_greyObjects tX2_greyObjects := mTC_cons hkX2_greyObjects_0 (mTC_nil)
theorem hkX2_completedCycles_0 : tX2_completedCycles_0.all (mchk 5 false ((Option.some Jvm.ClassFile.FieldType.int)) cX2_completedCycles) = true := by decide +kernel
theorem htX2_completedCycles : mTC 5 false ((Option.some Jvm.ClassFile.FieldType.int)) cX2_completedCycles tX2_completedCycles := mTC_cons hkX2_completedCycles_0 (mTC_nil)
theorem hkX2_hasColour_0 : tX2_hasColour_0.all (mchk 5 false ((Option.some Jvm.ClassFile.FieldType.boolean)) cX2_hasColour) = true := by decide +kernel
theorem hkX2_hasColour_1 : tX2_hasColour_1.all (mchk 5 false ((Option.some Jvm.ClassFile.FieldType.boolean)) cX2_hasColour) = true := by decide +kernel
theorem htX2_hasColour : mTC 5 false ((Option.some Jvm.ClassFile.FieldType.boolean)) cX2_hasColour tX2_hasColour := mTC_cons hkX2_hasColour_0 (mTC_cons hkX2_hasColour_1 (mTC_nil))
theorem hkX2_isDoomed_0 : tX2_isDoomed_0.all (mchk 5 false ((Option.some Jvm.ClassFile.FieldType.boolean)) cX2_isDoomed) = true := by decide +kernel
theorem hkX2_isDoomed_1 : tX2_isDoomed_1.all (mchk 5 false ((Option.some Jvm.ClassFile.FieldType.boolean)) cX2_isDoomed) = true := by decide +kernel
theorem htX2_isDoomed : mTC 5 false ((Option.some Jvm.ClassFile.FieldType.boolean)) cX2_isDoomed tX2_isDoomed := mTC_cons hkX2_isDoomed_0 (mTC_cons hkX2_isDoomed_1 (mTC_nil))
theorem hkX2_noteStore_0 : tX2_noteStore_0.all (mchk 5 false ((Option.none : Option Jvm.ClassFile.FieldType)) cX2_noteStore) = true := by decide +kernel
theorem htX2_noteStore : mTC 5 false ((Option.none : Option Jvm.ClassFile.FieldType)) cX2_noteStore tX2_noteStore := mTC_cons hkX2_noteStore_0 (mTC_nil)
theorem hkX2_notePromotion_0 : tX2_notePromotion_0.all (mchk 5 false ((Option.none : Option Jvm.ClassFile.FieldType)) cX2_notePromotion) = true := by decide +kernel
theorem hkX2_notePromotion_1 : tX2_notePromotion_1.all (mchk 5 false ((Option.none : Option Jvm.ClassFile.FieldType)) cX2_notePromotion) = true := by decide +kernel
theorem hkX2_notePromotion_2 : tX2_notePromotion_2.all (mchk 5 false ((Option.none : Option Jvm.ClassFile.FieldType)) cX2_notePromotion) = true := by decide +kernel
theorem htX2_notePromotion : mTC 5 false ((Option.none : Option Jvm.ClassFile.FieldType)) cX2_notePromotion tX2_notePromotion := mTC_cons hkX2_notePromotion_0 (mTC_cons hkX2_notePromotion_1 (mTC_cons hkX2_notePromotion_2 (mTC_nil)))
theorem hkX2_begin_0 : tX2_begin_0.all (mchk 5 false ((Option.some Jvm.ClassFile.FieldType.int)) cX2_begin) = true := by decide +kernel
theorem hkX2_begin_1 : tX2_begin_1.all (mchk 5 false ((Option.some Jvm.ClassFile.FieldType.int)) cX2_begin) = true := by decide +kernel
theorem hkX2_begin_2 : tX2_begin_2.all (mchk 5 false ((Option.some Jvm.ClassFile.FieldType.int)) cX2_begin) = true := by decide +kernel
theorem htX2_begin : mTC 5 false ((Option.some Jvm.ClassFile.FieldType.int)) cX2_begin tX2_begin := mTC_cons hkX2_begin_0 (mTC_cons hkX2_begin_1 (mTC_cons hkX2_begin_2 (mTC_nil)))
theorem hkX2_advance_0 : tX2_advance_0.all (mchk 5 false ((Option.some Jvm.ClassFile.FieldType.int)) cX2_advance) = true := by decide +kernel
theorem hkX2_advance_1 : tX2_advance_1.all (mchk 5 false ((Option.some Jvm.ClassFile.FieldType.int)) cX2_advance) = true := by decide +kernel
theorem hkX2_advance_2 : tX2_advance_2.all (mchk 5 false ((Option.some Jvm.ClassFile.FieldType.int)) cX2_advance) = true := by decide +kernel
theorem hkX2_advance_3 : tX2_advance_3.all (mchk 5 false ((Option.some Jvm.ClassFile.FieldType.int)) cX2_advance) = true := by decide +kernel
theorem hkX2_advance_4 : tX2_advance_4.all (mchk 5 false ((Option.some Jvm.ClassFile.FieldType.int)) cX2_advance) = true := by decide +kernel
theorem hkX2_advance_5 : tX2_advance_5.all (mchk 5 false ((Option.some Jvm.ClassFile.FieldType.int)) cX2_advance) = true := by decide +kernel
theorem htX2_advance : mTC 5 false ((Option.some Jvm.ClassFile.FieldType.int)) cX2_advance tX2_advance := mTC_cons hkX2_advance_0 (mTC_cons hkX2_advance_1 (mTC_cons hkX2_advance_2 (mTC_cons hkX2_advance_3 (mTC_cons hkX2_advance_4 (mTC_cons hkX2_advance_5 (mTC_nil))))))
theorem hkX2_markUnit_0 : tX2_markUnit_0.all (mchk 5 false ((Option.none : Option Jvm.ClassFile.FieldType)) cX2_markUnit) = true := by decide +kernel
theorem hkX2_markUnit_1 : tX2_markUnit_1.all (mchk 5 false ((Option.none : Option Jvm.ClassFile.FieldType)) cX2_markUnit) = true := by decide +kernel
theorem htX2_markUnit : mTC 5 false ((Option.none : Option Jvm.ClassFile.FieldType)) cX2_markUnit tX2_markUnit := mTC_cons hkX2_markUnit_0 (mTC_cons hkX2_markUnit_1 (mTC_nil))
theorem hkX2_sweepUnit_0 : tX2_sweepUnit_0.all (mchk 5 false ((Option.none : Option Jvm.ClassFile.FieldType)) cX2_sweepUnit) = true := by decide +kernel
theorem hkX2_sweepUnit_1 : tX2_sweepUnit_1.all (mchk 5 false ((Option.none : Option Jvm.ClassFile.FieldType)) cX2_sweepUnit) = true := by decide +kernel
theorem hkX2_sweepUnit_2 : tX2_sweepUnit_2.all (mchk 5 false ((Option.none : Option Jvm.ClassFile.FieldType)) cX2_sweepUnit) = true := by decide +kernel
theorem hkX2_sweepUnit_3 : tX2_sweepUnit_3.all (mchk 5 false ((Option.none : Option Jvm.ClassFile.FieldType)) cX2_sweepUnit) = true := by decide +kernel
theorem htX2_sweepUnit : mTC 5 false ((Option.none : Option Jvm.ClassFile.FieldType)) cX2_sweepUnit tX2_sweepUnit := mTC_cons hkX2_sweepUnit_0 (mTC_cons hkX2_sweepUnit_1 (mTC_cons hkX2_sweepUnit_2 (mTC_cons hkX2_sweepUnit_3 (mTC_nil))))
theorem hkX2_startSweeping_0 : tX2_startSweeping_0.all (mchk 5 false ((Option.none : Option Jvm.ClassFile.FieldType)) cX2_startSweeping) = true := by decide +kernel
theorem hkX2_startSweeping_1 : tX2_startSweeping_1.all (mchk 5 false ((Option.none : Option Jvm.ClassFile.FieldType)) cX2_startSweeping) = true := by decide +kernel
theorem hkX2_startSweeping_2 : tX2_startSweeping_2.all (mchk 5 false ((Option.none : Option Jvm.ClassFile.FieldType)) cX2_startSweeping) = true := by decide +kernel
theorem htX2_startSweeping : mTC 5 false ((Option.none : Option Jvm.ClassFile.FieldType)) cX2_startSweeping tX2_startSweeping := mTC_cons hkX2_startSweeping_0 (mTC_cons hkX2_startSweeping_1 (mTC_cons hkX2_startSweeping_2 (mTC_nil)))
theorem hkX2_scanRoots_0 : tX2_scanRoots_0.all (mchk 5 false ((Option.some Jvm.ClassFile.FieldType.int)) cX2_scanRoots) = true := by decide +kernel
theorem hkX2_scanRoots_1 : tX2_scanRoots_1.all (mchk 5 false ((Option.some Jvm.ClassFile.FieldType.int)) cX2_scanRoots) = true := by decide +kernel
theorem hkX2_scanRoots_2 : tX2_scanRoots_2.all (mchk 5 false ((Option.some Jvm.ClassFile.FieldType.int)) cX2_scanRoots) = true := by decide +kernel
theorem hkX2_scanRoots_3 : tX2_scanRoots_3.all (mchk 5 false ((Option.some Jvm.ClassFile.FieldType.int)) cX2_scanRoots) = true := by decide +kernel
theorem htX2_scanRoots : mTC 5 false ((Option.some Jvm.ClassFile.FieldType.int)) cX2_scanRoots tX2_scanRoots := mTC_cons hkX2_scanRoots_0 (mTC_cons hkX2_scanRoots_1 (mTC_cons hkX2_scanRoots_2 (mTC_cons hkX2_scanRoots_3 (mTC_nil))))
theorem hkX2_shadeFields_0 : tX2_shadeFields_0.all (mchk 5 false ((Option.none : Option Jvm.ClassFile.FieldType)) cX2_shadeFields) = true := by decide +kernel
theorem hkX2_shadeFields_1 : tX2_shadeFields_1.all (mchk 5 false ((Option.none : Option Jvm.ClassFile.FieldType)) cX2_shadeFields) = true := by decide +kernel
theorem htX2_shadeFields : mTC 5 false ((Option.none : Option Jvm.ClassFile.FieldType)) cX2_shadeFields tX2_shadeFields := mTC_cons hkX2_shadeFields_0 (mTC_cons hkX2_shadeFields_1 (mTC_nil))
theorem hkX2_shade_0 : tX2_shade_0.all (mchk 5 false ((Option.none : Option Jvm.ClassFile.FieldType)) cX2_shade) = true := by decide +kernel
theorem hkX2_shade_1 : tX2_shade_1.all (mchk 5 false ((Option.none : Option Jvm.ClassFile.FieldType)) cX2_shade) = true := by decide +kernel
theorem htX2_shade : mTC 5 false ((Option.none : Option Jvm.ClassFile.FieldType)) cX2_shade tX2_shade := mTC_cons hkX2_shade_0 (mTC_cons hkX2_shade_1 (mTC_nil))
theorem hkX3_init_0 : tX3_init_0.all (mchk 6 true ((Option.none : Option Jvm.ClassFile.FieldType)) cX3_init) = true := by decide +kernel
theorem hkX3_init_1 : tX3_init_1.all (mchk 6 true ((Option.none : Option Jvm.ClassFile.FieldType)) cX3_init) = true := by decide +kernel
theorem hkX3_init_2 : tX3_init_2.all (mchk 6 true ((Option.none : Option Jvm.ClassFile.FieldType)) cX3_init) = true := by decide +kernel
theorem htX3_init : mTC 6 true ((Option.none : Option Jvm.ClassFile.FieldType)) cX3_init tX3_init := mTC_cons hkX3_init_0 (mTC_cons hkX3_init_1 (mTC_cons hkX3_init_2 (mTC_nil)))
theorem hkX3_restart_0 : tX3_restart_0.all (mchk 6 false ((Option.none : Option Jvm.ClassFile.FieldType)) cX3_restart) = true := by decide +kernel
theorem htX3_restart : mTC 6 false ((Option.none : Option Jvm.ClassFile.FieldType)) cX3_restart tX3_restart := mTC_cons hkX3_restart_0 (mTC_nil)
theorem hkX3_failedPromotions_0 : tX3_failedPromotions_0.all (mchk 6 false ((Option.some Jvm.ClassFile.FieldType.int)) cX3_failedPromotions) = true := by decide +kernel
theorem htX3_failedPromotions : mTC 6 false ((Option.some Jvm.ClassFile.FieldType.int)) cX3_failedPromotions tX3_failedPromotions := mTC_cons hkX3_failedPromotions_0 (mTC_nil)
theorem hkX3_completedRuns_0 : tX3_completedRuns_0.all (mchk 6 false ((Option.some Jvm.ClassFile.FieldType.int)) cX3_completedRuns) = true := by decide +kernel
theorem htX3_completedRuns : mTC 6 false ((Option.some Jvm.ClassFile.FieldType.int)) cX3_completedRuns tX3_completedRuns := mTC_cons hkX3_completedRuns_0 (mTC_nil)
theorem hkX3_collect_0 : tX3_collect_0.all (mchk 6 false ((Option.some Jvm.ClassFile.FieldType.int)) cX3_collect) = true := by decide +kernel
theorem hkX3_collect_1 : tX3_collect_1.all (mchk 6 false ((Option.some Jvm.ClassFile.FieldType.int)) cX3_collect) = true := by decide +kernel
theorem htX3_collect : mTC 6 false ((Option.some Jvm.ClassFile.FieldType.int)) cX3_collect tX3_collect := mTC_cons hkX3_collect_0 (mTC_cons hkX3_collect_1 (mTC_nil))
theorem hkX3_traceSurvivors_0 : tX3_traceSurvivors_0.all (mchk 6 false ((Option.none : Option Jvm.ClassFile.FieldType)) cX3_traceSurvivors) = true := by decide +kernel
theorem hkX3_traceSurvivors_1 : tX3_traceSurvivors_1.all (mchk 6 false ((Option.none : Option Jvm.ClassFile.FieldType)) cX3_traceSurvivors) = true := by decide +kernel
theorem hkX3_traceSurvivors_2 : tX3_traceSurvivors_2.all (mchk 6 false ((Option.none : Option Jvm.ClassFile.FieldType)) cX3_traceSurvivors) = true := by decide +kernel
theorem hkX3_traceSurvivors_3 : tX3_traceSurvivors_3.all (mchk 6 false ((Option.none : Option Jvm.ClassFile.FieldType)) cX3_traceSurvivors) = true := by decide +kernel
theorem hkX3_traceSurvivors_4 : tX3_traceSurvivors_4.all (mchk 6 false ((Option.none : Option Jvm.ClassFile.FieldType)) cX3_traceSurvivors) = true := by decide +kernel
theorem hkX3_traceSurvivors_5 : tX3_traceSurvivors_5.all (mchk 6 false ((Option.none : Option Jvm.ClassFile.FieldType)) cX3_traceSurvivors) = true := by decide +kernel
theorem htX3_traceSurvivors : mTC 6 false ((Option.none : Option Jvm.ClassFile.FieldType)) cX3_traceSurvivors tX3_traceSurvivors := mTC_cons hkX3_traceSurvivors_0 (mTC_cons hkX3_traceSurvivors_1 (mTC_cons hkX3_traceSurvivors_2 (mTC_cons hkX3_traceSurvivors_3 (mTC_cons hkX3_traceSurvivors_4 (mTC_cons hkX3_traceSurvivors_5 (mTC_nil))))))
theorem hkX3_visitFields_0 : tX3_visitFields_0.all (mchk 6 false ((Option.none : Option Jvm.ClassFile.FieldType)) cX3_visitFields) = true := by decide +kernel
theorem hkX3_visitFields_1 : tX3_visitFields_1.all (mchk 6 false ((Option.none : Option Jvm.ClassFile.FieldType)) cX3_visitFields) = true := by decide +kernel
theorem htX3_visitFields : mTC 6 false ((Option.none : Option Jvm.ClassFile.FieldType)) cX3_visitFields tX3_visitFields := mTC_cons hkX3_visitFields_0 (mTC_cons hkX3_visitFields_1 (mTC_nil))
theorem hkX3_visit_0 : tX3_visit_0.all (mchk 6 false ((Option.none : Option Jvm.ClassFile.FieldType)) cX3_visit) = true := by decide +kernel
theorem htX3_visit : mTC 6 false ((Option.none : Option Jvm.ClassFile.FieldType)) cX3_visit tX3_visit := mTC_cons hkX3_visit_0 (mTC_nil)
theorem hkX3_ageSurvivors_0 : tX3_ageSurvivors_0.all (mchk 6 false ((Option.none : Option Jvm.ClassFile.FieldType)) cX3_ageSurvivors) = true := by decide +kernel
theorem hkX3_ageSurvivors_1 : tX3_ageSurvivors_1.all (mchk 6 false ((Option.none : Option Jvm.ClassFile.FieldType)) cX3_ageSurvivors) = true := by decide +kernel
theorem hkX3_ageSurvivors_2 : tX3_ageSurvivors_2.all (mchk 6 false ((Option.none : Option Jvm.ClassFile.FieldType)) cX3_ageSurvivors) = true := by decide +kernel
theorem htX3_ageSurvivors : mTC 6 false ((Option.none : Option Jvm.ClassFile.FieldType)) cX3_ageSurvivors tX3_ageSurvivors := mTC_cons hkX3_ageSurvivors_0 (mTC_cons hkX3_ageSurvivors_1 (mTC_cons hkX3_ageSurvivors_2 (mTC_nil)))
theorem hkX3_promoteIfRoom_0 : tX3_promoteIfRoom_0.all (mchk 6 false ((Option.none : Option Jvm.ClassFile.FieldType)) cX3_promoteIfRoom) = true := by decide +kernel
theorem hkX3_promoteIfRoom_1 : tX3_promoteIfRoom_1.all (mchk 6 false ((Option.none : Option Jvm.ClassFile.FieldType)) cX3_promoteIfRoom) = true := by decide +kernel
