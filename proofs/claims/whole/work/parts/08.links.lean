/-! ===== the tables hold ===== -/
def mXp : List MethodName := [yJ5_newCapacity_0f7a4, yJ5_inflateIfNeededFor_a7421, yJ5_ensureCapacityInternal_d00df, yJ5_putStringAt_47b60]
def mtbl : List Cond := lw_tbl ++ mXp.map (fun y => Cond.selects RJ4 y y)
def gtb : List Cond := mtbl.filter goodWord
theorem m_selects {y : MethodName} {s : State} {args : Array Value} {n : Nat} {C : String} (hy : y.cls ≠ "java/lang/invoke/MethodHandle" ∧ y.cls ≠ "java/lang/invoke/VarHandle")
    (hins : (Cond.instantiable C n).before args s = true) (hpriv : (Cond.privateMethod y).before args s = true) (hinst : (Cond.instanceMethod y).before args s = true) (hsame : (Cond.sameMethod y.cls y.cls y.name y.desc).before args s = true) :
    (Cond.selects C y y).before args s = true := by
  obtain ⟨c, k, hc, hk, -, hniab, -, -⟩ := Cond.instantiable_spec hins
  obtain ⟨mk, methM, hnamed, hmethM, -, -⟩ := Cond.instanceMethod_spec hinst
  have hfound : s.methodFound? y.cls y.name y.desc = some mk := State.methodFound?_of_named hnamed hy
  obtain ⟨cn, ck, r1, hcn, hck, hni, hf, hn1⟩ := Cond.sameMethod_found hsame
  have hcls : mk.cls = cn := Option.some.inj ((findClass_of_methodNamed hnamed).symm.trans hcn)
  have hsel : selectMethod {} s.vm c mk = .method mk := selectMethod_private hmethM (Cond.privateMethod_at hpriv mk methM hnamed hmethM)
  simp only [Cond.before, Cond.holds, Cond.value, hc, hfound, hnamed, hsel, hcls, hck]
  simp; exact hni
theorem mtbl_hts {s : State} {args : Array Value} (hts : ∀ w ∈ lw_tbl, w.before args s = true) : ∀ w ∈ gtb, w.before args s = true := by
  intro w hw
  have hw : w ∈ lw_tbl ++ mXp.map (fun y => Cond.selects RJ4 y y) := (List.mem_filter.mp hw).1
  rcases List.mem_append.mp hw with h | h
  · exact hts w h
  · obtain ⟨y, hy, rfl⟩ := List.mem_map.mp h
    have hy : y ∈ [yJ5_newCapacity_0f7a4, yJ5_inflateIfNeededFor_a7421, yJ5_ensureCapacityInternal_d00df, yJ5_putStringAt_47b60] := hy
    simp only [List.mem_cons, List.not_mem_nil, or_false] at hy
    rcases hy with rfl | rfl | rfl | rfl
    · exact m_selects ⟨by decide +kernel, by decide +kernel⟩ (hts (.instantiable RJ4 4) (List.mem_of_getElem? (i := 752) (by decide +kernel))) (hts _ (List.mem_of_getElem? (i := 794) (by decide +kernel))) (hts _ (List.mem_of_getElem? (i := 795) (by decide +kernel))) (hts _ (List.mem_of_getElem? (i := 1599) (by decide +kernel)))
    · exact m_selects ⟨by decide +kernel, by decide +kernel⟩ (hts (.instantiable RJ4 4) (List.mem_of_getElem? (i := 752) (by decide +kernel))) (hts _ (List.mem_of_getElem? (i := 941) (by decide +kernel))) (hts _ (List.mem_of_getElem? (i := 942) (by decide +kernel))) (hts _ (List.mem_of_getElem? (i := 1605) (by decide +kernel)))
    · exact m_selects ⟨by decide +kernel, by decide +kernel⟩ (hts (.instantiable RJ4 4) (List.mem_of_getElem? (i := 752) (by decide +kernel))) (hts _ (List.mem_of_getElem? (i := 790) (by decide +kernel))) (hts _ (List.mem_of_getElem? (i := 791) (by decide +kernel))) (hts _ (List.mem_of_getElem? (i := 1598) (by decide +kernel)))
    · exact m_selects ⟨by decide +kernel, by decide +kernel⟩ (hts (.instantiable RJ4 4) (List.mem_of_getElem? (i := 752) (by decide +kernel))) (hts _ (List.mem_of_getElem? (i := 937) (by decide +kernel))) (hts _ (List.mem_of_getElem? (i := 938) (by decide +kernel))) (hts _ (List.mem_of_getElem? (i := 1604) (by decide +kernel)))
theorem gtb_of {ws : List Cond} (ps : List Nat) (h : ws = ps.filterMap (fun i => mtbl[i]?)) (hg : ws.all goodWord = true) : ∀ w ∈ ws, w ∈ gtb := by
  intro w hw
  have h1 := List.all_eq_true.mp hg w hw
  rw [h] at hw
  obtain ⟨i, -, hi⟩ := List.mem_filterMap.mp hw
  exact List.mem_filter.mpr ⟨List.mem_of_getElem? hi, h1⟩
def mcC (ci : Nat) : String := match ci with
  | 0 => RJ0
  | 1 => RJ4
  | 2 => RX0
  | 3 => RX1
  | 4 => RX2
  | 5 => RX3
  | 6 => RX4
  | 7 => RX5
  | 8 => RX6
  | _ => RX7
def mcT (ci : Nat) : u_T := match ci with
  | 0 => TJ0
  | 1 => TJ4
  | 2 => TX0
  | 3 => TX1
  | 4 => TX2
  | 5 => TX3
  | 6 => TX4
  | 7 => TX5
  | 8 => TX6
  | _ => TX7
theorem mc_at : ∀ a, a < 10 → vwCl[a]? = some (mcC a, mcT a, mcN a) := fun a h => by
  match a, h with
  | 0, _ => rfl
  | 1, _ => rfl
  | 2, _ => rfl
  | 3, _ => rfl
  | 4, _ => rfl
  | 5, _ => rfl
  | 6, _ => rfl
  | 7, _ => rfl
  | 8, _ => rfl
  | 9, _ => rfl
  | a + 10, h => omega
set_option maxRecDepth 100000 in
theorem mc_in_0 : ∀ w ∈ u_ws RJ0 TJ0 4, w ∈ gtb := gtb_of [1005, 1007, 1009, 1011] (by decide +kernel) (by decide +kernel)
set_option maxRecDepth 100000 in
theorem mc_in_1 : ∀ w ∈ u_ws RJ4 TJ4 4, w ∈ gtb := gtb_of [773, 775, 777, 779] (by decide +kernel) (by decide +kernel)
set_option maxRecDepth 100000 in
theorem mc_in_2 : ∀ w ∈ u_ws RX0 TX0 8, w ∈ gtb := gtb_of [169, 171, 173, 175, 177, 179, 181, 183] (by decide +kernel) (by decide +kernel)
set_option maxRecDepth 100000 in
theorem mc_in_3 : ∀ w ∈ u_ws RX1 TX1 3, w ∈ gtb := gtb_of [153, 155, 157] (by decide +kernel) (by decide +kernel)
set_option maxRecDepth 100000 in
theorem mc_in_4 : ∀ w ∈ u_ws RX2 TX2 6, w ∈ gtb := gtb_of [205, 207, 209, 211, 213, 215] (by decide +kernel) (by decide +kernel)
set_option maxRecDepth 100000 in
theorem mc_in_5 : ∀ w ∈ u_ws RX3 TX3 6, w ∈ gtb := gtb_of [233, 235, 237, 239, 241, 243] (by decide +kernel) (by decide +kernel)
set_option maxRecDepth 100000 in
theorem mc_in_6 : ∀ w ∈ u_ws RX4 TX4 9, w ∈ gtb := gtb_of [124, 126, 128, 130, 132, 134, 136, 138, 140] (by decide +kernel) (by decide +kernel)
set_option maxRecDepth 100000 in
theorem mc_in_7 : ∀ w ∈ u_ws RX5 TX5 7, w ∈ gtb := gtb_of [259, 261, 263, 265, 267, 269, 271] (by decide +kernel) (by decide +kernel)
set_option maxRecDepth 100000 in
theorem mc_in_8 : ∀ w ∈ u_ws RX6 TX6 7, w ∈ gtb := gtb_of [299, 301, 303, 305, 307, 309, 311] (by decide +kernel) (by decide +kernel)
set_option maxRecDepth 100000 in
theorem mc_in_9 : ∀ w ∈ u_ws RX7 TX7 38, w ∈ gtb := gtb_of [1223, 1225, 1227, 1229, 1231, 1233, 1235, 1237, 1239, 1241, 1243, 1245, 1247, 1249, 1251, 1253, 1255, 1257, 1259, 1261, 1263, 1265, 1267, 1269, 1271, 1273, 1275, 1277, 1279, 1281, 1283, 1285, 1287, 1289, 1291, 1293, 1295, 1297] (by decide +kernel) (by decide +kernel)
theorem mc_in : ∀ a, a < 10 → ∀ w ∈ u_ws (mcC a) (mcT a) (mcN a), w ∈ gtb := fun a h => by
  match a, h with
  | 0, _ => exact mc_in_0
  | 1, _ => exact mc_in_1
  | 2, _ => exact mc_in_2
  | 3, _ => exact mc_in_3
  | 4, _ => exact mc_in_4
  | 5, _ => exact mc_in_5
  | 6, _ => exact mc_in_6
  | 7, _ => exact mc_in_7
  | 8, _ => exact mc_in_8
  | 9, _ => exact mc_in_9
  | a + 10, h => omega
theorem mc_ty : ∀ a, a < 10 → ∀ k, k < mcN a → parseFieldDescriptor (mcT a k).2.2.1 = some (mcTy a k) := fun a h => by
  match a, h with
  | 0, _ => exact tyJ0_ok
  | 1, _ => exact tyJ4_ok
  | 2, _ => exact tyX0_ok
  | 3, _ => exact tyX1_ok
  | 4, _ => exact tyX2_ok
  | 5, _ => exact tyX3_ok
  | 6, _ => exact tyX4_ok
  | 7, _ => exact tyX5_ok
  | 8, _ => exact tyX6_ok
  | 9, _ => exact tyX7_ok
  | a + 10, h => omega
theorem mc_nm : ∀ a, a < 10 → ∀ x, x < mcN a → ∀ y, y < mcN a → x ≠ y → (mcT a x).2.1 ≠ (mcT a y).2.1 := fun a h => by
  match a, h with
  | 0, _ => exact nmJ0
  | 1, _ => exact nmJ4
  | 2, _ => exact nmX0
  | 3, _ => exact nmX1
  | 4, _ => exact nmX2
  | 5, _ => exact nmX3
  | 6, _ => exact nmX4
  | 7, _ => exact nmX5
  | 8, _ => exact nmX6
  | 9, _ => exact nmX7
  | a + 10, h => omega
def mtc (ty : FieldType) : Nat := match ty with
  | .long => 1
  | .object _ => 2
  | .array _ => 2
  | .boolean => 3
  | .byte => 4
  | .int => 0
  | _ => 98
def mFldW (q : Nat × Nat × Nat × Nat × Nat) : Cond := .fieldLink (mcl q.1) q.2.1 (mcT q.2.2.1 q.2.2.2.1).1 (mcT q.2.2.1 q.2.2.2.1).2.1 (mcT q.2.2.1 q.2.2.2.1).2.2.1
def mFldC (q : Nat × Nat × Nat × Nat × Nat) : Bool := Nat.blt q.2.2.1 10 && (Nat.blt q.2.2.2.1 (mcN q.2.2.1) && Nat.beq (mtc (mcTy q.2.2.1 q.2.2.2.1)) q.2.2.2.2)
set_option maxRecDepth 100000 in
theorem mFld_w : ∀ w ∈ mFldT.map mFldW, w ∈ gtb := gtb_of [1185, 1186, 1187, 1189, 1190, 1191, 1192, 1193, 1194, 1195, 1197, 1199, 1201, 1207, 1209, 1211, 1213, 1215, 1216, 1217, 1218, 1208, 1188, 1196, 1198, 1200, 1202, 1203, 1204, 1205, 1206, 1214, 1212, 1210, 1220, 1221, 1219, 1222, 150, 151, 152, 115, 116, 117, 118, 119, 120, 121, 122, 123, 161, 162, 163, 164, 165, 166, 167, 168, 201, 202, 203, 204, 199, 200, 230, 231, 232, 227, 228, 229, 252, 253, 254, 255, 256, 257, 258, 292, 293, 294, 295, 296, 297, 298, 1004, 1003, 769, 770, 772, 771] (by decide +kernel) (by decide +kernel)
set_option maxRecDepth 100000 in
theorem mFld_c : mFldT.all mFldC = true := by decide +kernel
def mNewW (q : Nat × Nat × Nat × Nat × Nat) : List Cond := [.classLink (mcl q.1) q.2.1 (mcC q.2.2.1), .instantiable (mcC q.2.2.1) (mcN q.2.2.1), .initialized (mcC q.2.2.1)]
def mNewC (q : Nat × Nat × Nat × Nat × Nat) : Bool := Nat.blt q.2.2.1 10 && Nat.beq q.2.2.2.1 (mcN q.2.2.1)
set_option maxRecDepth 100000 in
theorem mNew_w : ∀ w ∈ mNewT.flatMap mNewW, w ∈ gtb := gtb_of [109, 110, 77, 144, 145, 78, 196, 145, 78, 224, 145, 78, 103, 104, 76, 190, 191, 79, 218, 219, 80, 246, 247, 81, 751, 752, 85, 958, 959, 86, 95, 96, 75, 1175, 1176, 83] (by decide +kernel) (by decide +kernel)
theorem mNew_c : mNewT.all mNewC = true := by decide +kernel
def mStaN (q : Nat × Nat × Nat × Nat × Nat) : String × String × String := match q.2.2.2.2, q.2.2.1 with
  | 0, _ => ("java/lang/String", "COMPACT_STRINGS", "Z")
  | 1, 1000200 => (RX5, "ARGUMENT_COUNTS", "[I")
  | 1, 1000201 => (RJ6, "DigitOnes", "[B")
  | 1, 1000202 => (RJ6, "DigitTens", "[B")
  | _, _ => (RJ3, "SIOOBE_FORMATTER", "Ljava/util/function/BiFunction;")
def mStaW (q : Nat × Nat × Nat × Nat × Nat) : Cond := .fieldLink (mcl q.1) q.2.1 (mStaN q).1 (mStaN q).2.1 (mStaN q).2.2
def mStaC (q : Nat × Nat × Nat × Nat × Nat) : Bool := (Nat.beq q.2.2.2.2 0 && Nat.beq q.2.2.1 1) || (Nat.beq q.2.2.2.2 1 && (Nat.beq q.2.2.1 1000200 || Nat.beq q.2.2.1 1000201 || Nat.beq q.2.2.1 1000202)) || Nat.beq q.2.2.2.2 2
set_option maxRecDepth 100000 in
theorem mSta_w : ∀ w ∈ mStaT.map mStaW, w ∈ gtb := gtb_of [1102, 851, 935, 890, 892, 760] (by decide +kernel) (by decide +kernel)
theorem mSta_c : mStaT.all mStaC = true := by decide +kernel
set_option maxRecDepth 100000 in
theorem mLdc_w : ∀ w ∈ (mLdcT.filter (fun q => Nat.beq q.2.2.2.2 1)).map (fun q => Cond.constant (mcl q.1) q.2.1 (nI q.2.2.1)), w ∈ gtb := gtb_of [803, 807] (by decide +kernel) (by decide +kernel)
set_option maxRecDepth 100000 in
theorem mL2_w : ∀ w ∈ mL2T.map (fun q => Cond.constantLong (mcl q.1) q.2.1 (lN q.2.2.1)), w ∈ gtb := gtb_of [1590, 1585, 1146, 1154] (by decide +kernel) (by decide +kernel)
def mASB : String := "java/lang/AbstractStringBuilder"
def mlenX : MethodName := ⟨"java/lang/AbstractStringBuilder", "length", "()I"⟩
def mclnO : MethodName := ⟨"java/lang/Object", "clone", "()Ljava/lang/Object;"⟩
def mclnX : MethodName := ⟨"[B", "clone", "()Ljava/lang/Object;"⟩
def mReqK (own : String) (ix kd : Nat) (y : MethodName) : List Cond := match kd with
  | 0 => wsV own ix y.cls y []
  | 1 => va_wsS own ix y []
  | 2 => [.methodLink own ix y, .instanceMethod y, .initialized y.cls]
  | 3 => va_wsU own ix RJ4 y.cls y y []
  | 4 => va_wsO own ix RJ4 mASB mlenX y []
  | 5 => va_wsSU own ix y []
  | 6 => [.instanceMethod y, .initialized y.cls]
  | 7 => [.static y, .initialized y.cls]
  | 8 => [.methodLink own ix arraycopyName, .native arraycopyName, .static arraycopyName, .initialized "java/lang/System"]
  | 9 => [.methodLink own ix objectInit, .instanceMethod objectInit]
  | 11 => [.methodLink own ix Lib.Math.max.name, .static Lib.Math.max.name, .initialized "java/lang/Math"]
  | 12 => [.methodLink own ix Lib.Math.min.name, .static Lib.Math.min.name, .initialized "java/lang/Math"]
  | _ => [.methodLink own ix mclnX, .sameMethod "[B" "java/lang/Object" "clone" "()Ljava/lang/Object;", .native mclnO, .instanceMethod mclnO, .selects "[B" mclnX mclnO]
def mReq (q : Nat × Nat × Nat × Nat × Nat) : List Cond := mReqK (mcl q.1) q.2.1 q.2.2.2.2 (mnm q.2.2.1)
def mMthC (q : Nat × Nat × Nat × Nat × Nat) : Bool := match q.2.2.2.2 with
  | 8 => true
  | 9 => true
  | 10 => true
  | 11 => true
  | 12 => true
  | kd => (mmk q.2.2.1).isSome && (decide ((mnm q.2.2.1).cls ≠ "java/lang/invoke/MethodHandle") && (decide ((mnm q.2.2.1).cls ≠ "java/lang/invoke/VarHandle") && (decide ((parseMethodDescriptor (mnm q.2.2.1).desc).map (fun d => d.parameters.length) = some q.2.2.2.1) &&
      ((Nat.beq kd 0 && decide (mcC (mrc q.2.2.1) = (mnm q.2.2.1).cls ∧ mrc q.2.2.1 < 10)) || Nat.beq kd 1 || ((Nat.beq kd 2 || Nat.beq kd 6) && decide ((mnm q.2.2.1).name = "<init>")) || (Nat.beq kd 3 && decide (mrc q.2.2.1 = 1)) || (Nat.beq kd 4 && decide (mrc q.2.2.1 = 1)) || (Nat.beq kd 5 && decide ((mnm q.2.2.1).name ≠ "<init>" ∧ mrc q.2.2.1 = 1)) || Nat.beq kd 7))))
set_option maxRecDepth 100000 in
theorem mMth_w0 : ∀ w ∈ ((mMthT.drop 0).take 60).flatMap mReq, w ∈ gtb := gtb_of [1180, 101, 1181, 1183, 34, 83, 1304, 1305, 83, 1331, 1333, 39, 83, 1307, 1309, 35, 83, 1311, 1313, 36, 83, 1319, 1321, 37, 83, 1339, 1341, 41, 83, 1355, 1357, 45, 83, 1327, 1329, 38, 83, 1335, 1337, 40, 83, 1343, 1345, 42, 83, 1347, 1349, 43, 83, 1351, 1353, 44, 83, 1371, 1373, 47, 83, 1375, 1377, 48, 83, 1387, 1389, 51, 83, 1367, 1369, 46, 83, 1379, 1381, 49, 83, 1383, 1385, 50, 83, 1399, 1401, 53, 83, 1395, 1397, 52, 83, 1411, 1413, 55, 83, 1419, 1421, 57, 83, 1407, 1409, 54, 83, 1415, 1417, 56, 83, 1451, 1453, 58, 83, 1503, 1505, 59, 83, 1507, 1509, 60, 83, 1511, 1513, 61, 83, 1535, 1537, 63, 83, 1531, 1533, 62, 83, 1547, 1549, 66, 83, 1551, 1553, 67, 83, 1555, 1557, 68, 83, 1559, 1561, 69, 83, 1543, 1545, 65, 83, 1563, 1565, 70, 83, 1571, 1316, 1317, 83, 1572, 1360, 1361, 83, 1573, 1324, 1325, 83, 1574, 1364, 1365, 83, 1575, 1392, 1393, 83, 1576, 1404, 1405, 83, 1539, 1541, 64, 83, 1567, 1569, 71, 83, 1586, 1588, 72, 83, 1591, 1468, 1469, 83, 1592, 1594, 73, 83, 1596, 1448, 1449, 83, 149, 101, 614, 494, 495, 78, 615, 570, 571, 78, 573, 547, 548, 78, 114, 101, 284, 285, 82, 379, 380, 381, 77, 383, 384, 385, 77, 375, 376, 377, 77, 568, 418, 419, 77] (by decide +kernel) (by decide +kernel)
set_option maxRecDepth 100000 in
theorem mMth_w1 : ∀ w ∈ ((mMthT.drop 60).take 60).flatMap mReq, w ∈ gtb := gtb_of [536, 431, 432, 77, 319, 75, 371, 372, 373, 77, 387, 388, 389, 77, 554, 427, 428, 77, 108, 101, 112, 77, 147, 78, 280, 281, 282, 77, 287, 285, 82, 288, 289, 290, 78, 515, 516, 517, 77, 527, 528, 529, 77, 531, 388, 389, 77, 319, 75, 358, 359, 360, 77, 362, 363, 364, 77, 366, 367, 368, 77, 391, 392, 393, 78, 463, 456, 457, 76, 425, 372, 373, 77, 426, 427, 428, 77, 430, 431, 432, 77, 670, 672, 18, 76, 675, 333, 334, 78, 676, 494, 495, 78, 677, 384, 385, 77, 678, 418, 419, 77, 674, 380, 381, 77, 195, 101, 147, 78, 198, 187, 188, 76, 344, 289, 290, 78, 588, 333, 334, 78, 627, 427, 428, 77, 413, 414, 415, 77, 438, 440, 3, 79, 442, 443, 444, 77, 446, 392, 393, 78, 582, 584, 13, 79, 319, 75, 605, 337, 338, 77, 606, 608, 15, 79, 619, 621, 16, 79, 623, 625, 17, 79, 610, 611, 612, 78, 590, 592, 14, 79, 616, 551, 552, 77, 617, 489, 490, 76, 618, 570, 571, 78, 586, 460, 461, 76, 587, 329, 330, 76, 589, 494, 495, 78, 594, 384, 385, 77, 595, 418, 419, 77, 223, 101, 147, 78, 226, 187, 188, 76, 476, 478, 5, 80, 503, 505, 8, 80] (by decide +kernel) (by decide +kernel)
set_option maxRecDepth 100000 in
theorem mMth_w2 : ∀ w ∈ ((mMthT.drop 120).take 60).flatMap mReq, w ∈ gtb := gtb_of [541, 543, 10, 80, 555, 557, 11, 80, 559, 561, 12, 80, 480, 289, 290, 78, 481, 460, 461, 76, 482, 484, 6, 80, 488, 489, 490, 76, 492, 333, 334, 78, 493, 494, 495, 78, 497, 499, 7, 80, 501, 384, 385, 77, 502, 418, 419, 77, 486, 431, 432, 77, 487, 392, 393, 78, 507, 508, 509, 77, 511, 512, 513, 76, 519, 521, 9, 80, 523, 524, 525, 76, 532, 533, 534, 77, 537, 538, 539, 79, 545, 329, 330, 76, 546, 547, 548, 78, 550, 551, 552, 77, 563, 427, 428, 77, 564, 565, 566, 77, 569, 570, 571, 78, 251, 101, 319, 75, 1059, 1061, 20, 81, 1063, 1065, 21, 81, 1071, 1073, 23, 81, 1104, 1105, 81, 1107, 1109, 27, 81, 1118, 1120, 29, 81, 1067, 1069, 22, 81, 1075, 1076, 81, 1078, 1080, 24, 81, 1098, 1100, 26, 81, 1111, 1113, 28, 81, 1115, 1116, 81, 1082, 1083, 81, 1092, 1094, 25, 81, 1096, 928, 929, 86, 1097, 1020, 1021, 86, 100, 101, 106, 76, 186, 187, 188, 76, 192, 193, 79, 220, 221, 80, 249, 81, 276, 277, 278, 76, 318, 319, 75, 321, 323, 0, 75, 328, 329, 330, 76, 332, 333, 334, 78, 336, 337, 338, 77, 340, 341, 342, 79, 345, 346, 347, 80, 353, 354, 355, 76, 399, 401, 1, 75] (by decide +kernel) (by decide +kernel)
set_option maxRecDepth 100000 in
theorem mMth_w3 : ∀ w ∈ ((mMthT.drop 180).take 60).flatMap mReq, w ∈ gtb := gtb_of [451, 453, 4, 75, 472, 473, 474, 80, 578, 579, 580, 79, 600, 601, 602, 79, 408, 380, 381, 77, 636, 427, 428, 77, 641, 516, 517, 77, 403, 376, 377, 77, 417, 418, 419, 77, 455, 456, 457, 76, 459, 460, 461, 76, 654, 655, 656, 79, 658, 659, 660, 77, 666, 667, 668, 76, 687, 494, 495, 78, 692, 359, 360, 77, 701, 528, 529, 77, 706, 489, 490, 76, 715, 716, 717, 79, 723, 724, 725, 79, 731, 732, 733, 80, 739, 740, 741, 79, 747, 749, 19, 75, 1014, 928, 929, 86, 1019, 1020, 1021, 86, 1038, 1039, 1040, 81, 1047, 1048, 1049, 81, 1055, 1056, 1057, 81, 1122, 1123, 1124, 81, 1126, 1128, 30, 75, 325, 326, 75, 1147, 1149, 31, 75, 1164, 1166, 32, 75, 1171, 1173, 33, 75, 1151, 1152, 75, 404, 406, 2, 75, 409, 410, 411, 79, 421, 422, 423, 76, 434, 435, 436, 79, 464, 465, 466, 76, 1130, 1131, 1132, 81, 1134, 1135, 1136, 81, 753, 754, 85, 782, 783, 784, 85, 877, 878, 879, 85, 913, 914, 915, 85, 953, 384, 385, 77, 954, 955, 956, 85, 1155, 1156, 1157, 81, 1159, 363, 364, 77, 1160, 1161, 1162, 80, 1168, 1169, 75, 811, 812, 813, 814, 815, 818, 819, 89, 821, 823, 822, 90, 984, 985, 82, 987, 988, 82, 800, 801, 89, 874, 875, 92, 1030, 872, 86] (by decide +kernel) (by decide +kernel)
set_option maxRecDepth 100000 in
theorem mMth_w4 : ∀ w ∈ ((mMthT.drop 240).take 60).flatMap mReq, w ∈ gtb := gtb_of [931, 932, 933, 86, 1023, 1024, 1025, 86, 1027, 1028, 91, 949, 823, 822, 90, 759, 101, 797, 798, 88, 793, 1599, 1606, 795, 84, 808, 809, 82, 944, 932, 933, 86, 940, 1605, 1607, 942, 84, 945, 946, 947, 86, 927, 928, 929, 86, 789, 1598, 1608, 791, 84, 936, 1604, 1609, 938, 84, 824, 826, 827, 825, 84, 829, 830, 91, 884, 885, 94, 887, 888, 94, 966, 101, 967, 969, 970, 968, 84, 972, 974, 973, 975, 976, 85, 980, 826, 827, 825, 84, 981, 982, 82, 963, 964, 86, 756, 757, 84, 917, 1602, 781, 918, 84, 786, 1597, 781, 787, 84, 881, 1601, 781, 882, 84, 978, 974, 781, 973, 84, 960, 961, 86, 97, 98, 75, 1177, 1178, 83, 314, 315, 316, 75, 1300, 1301, 1302, 83, 349, 350, 351, 75, 1315, 1316, 1317, 83, 395, 396, 397, 75, 1323, 1324, 1325, 83, 447, 448, 449, 75, 1359, 1360, 1361, 83, 468, 469, 470, 75, 1363, 1364, 1365, 83, 574, 575, 576, 75, 1391, 1392, 1393, 83, 596, 597, 598, 75, 1403, 1404, 1405, 83, 628, 629, 630, 75, 1423, 1424, 1425, 83, 632, 633, 634, 75, 1427, 1428, 1429, 83, 637, 638, 639, 75, 1431, 1432, 1433, 83, 642, 643, 644, 75, 1435, 1436, 1437, 83, 646, 647, 648, 75, 1439, 1440, 1441, 83, 650, 651, 652, 75, 1443, 1444, 1445, 83, 662, 663, 664, 75, 1447, 1448, 1449, 83] (by decide +kernel) (by decide +kernel)
set_option maxRecDepth 100000 in
theorem mMth_w5 : ∀ w ∈ ((mMthT.drop 300).take 60).flatMap mReq, w ∈ gtb := gtb_of [679, 680, 681, 75, 1455, 1456, 1457, 83, 683, 684, 685, 75, 1459, 1460, 1461, 83, 688, 689, 690, 75, 1463, 1464, 1465, 83, 693, 694, 695, 75, 1467, 1468, 1469, 83, 697, 698, 699, 75, 1471, 1472, 1473, 83, 702, 703, 704, 75, 1475, 1476, 1477, 83, 707, 708, 709, 75, 1479, 1480, 1481, 83, 711, 712, 713, 75, 1483, 1484, 1485, 83, 719, 720, 721, 75, 1487, 1488, 1489, 83, 727, 728, 729, 75, 1491, 1492, 1493, 83, 735, 736, 737, 75, 1495, 1496, 1497, 83, 743, 744, 745, 75, 1499, 1500, 1501, 83, 1015, 1016, 1017, 75, 1515, 1516, 1517, 83, 1034, 1035, 1036, 75, 1519, 1520, 1521, 83, 1043, 1044, 1045, 75, 1523, 1524, 1525, 83, 1051, 1052, 1053, 75, 1527, 1528, 1529, 83, 1138, 1139, 1140, 75, 1577, 1578, 1579, 83, 1142, 1143, 1144, 75, 1581, 1582, 1583, 83] (by decide +kernel) (by decide +kernel)
set_option maxRecDepth 100000 in
theorem mMth_c : mMthT.all mMthC = true := by decide +kernel
set_option maxRecDepth 100000 in
theorem mCode_w0 : ∀ w ∈ mms_0.map (fun q => Cond.code q.1 q.2.1 q.2.2.1 q.2.2.2.1), w ∈ gtb := gtb_of [1179, 1184, 1306, 1310, 1334, 1338, 1346, 1342, 1322, 1314, 1303, 1318, 1358, 1354, 1350, 1330, 1326, 1362, 1374, 1378] (by decide +kernel) (by decide +kernel)
set_option maxRecDepth 100000 in
theorem mCode_w1 : ∀ w ∈ mms_1.map (fun q => Cond.code q.1 q.2.1 q.2.2.1 q.2.2.2.1), w ∈ gtb := gtb_of [1370, 1382, 1390, 1386, 1366, 1402, 1398, 1394, 1414, 1422, 1410, 1418, 1406, 1426, 1430, 1434, 1438, 1442, 1446, 1450] (by decide +kernel) (by decide +kernel)
set_option maxRecDepth 100000 in
theorem mCode_w2 : ∀ w ∈ mms_2.map (fun q => Cond.code q.1 q.2.1 q.2.2.1 q.2.2.2.1), w ∈ gtb := gtb_of [1454, 1458, 1462, 1466, 1470, 1474, 1478, 1482, 1486, 1490, 1494, 1498, 1506, 1510, 1514, 1502, 1518, 1522, 1526, 1538] (by decide +kernel) (by decide +kernel)
set_option maxRecDepth 100000 in
theorem mCode_w3 : ∀ w ∈ mms_3.map (fun q => Cond.code q.1 q.2.1 q.2.2.1 q.2.2.2.1), w ∈ gtb := gtb_of [1534, 1558, 1550, 1554, 1546, 1562, 1566, 1542, 1570, 1530, 1580, 1589, 1595, 1584, 148, 335, 496, 549, 394, 613] (by decide +kernel) (by decide +kernel)
set_option maxRecDepth 100000 in
theorem mCode_w4 : ∀ w ∈ mms_4.map (fun q => Cond.code q.1 q.2.1 q.2.2.1 q.2.2.2.1), w ∈ gtb := gtb_of [572, 291, 113, 283, 365, 361, 530, 339, 382, 433, 429, 518, 386, 390, 661, 416, 378, 420, 374, 567] (by decide +kernel) (by decide +kernel)
set_option maxRecDepth 100000 in
theorem mCode_w5 : ∀ w ∈ mms_5.map (fun q => Cond.code q.1 q.2.1 q.2.2.1 q.2.2.2.1), w ∈ gtb := gtb_of [369, 510, 445, 535, 553, 107, 279, 189, 331, 491, 514, 526, 356, 458, 462, 467, 424, 669, 673, 194] (by decide +kernel) (by decide +kernel)
set_option maxRecDepth 100000 in
theorem mCode_w6 : ∀ w ∈ mms_6.map (fun q => Cond.code q.1 q.2.1 q.2.2.1 q.2.2.2.1), w ∈ gtb := gtb_of [343, 718, 726, 742, 657, 412, 437, 540, 581, 603, 622, 609, 626, 585, 593, 441, 222, 348, 734, 1163] (by decide +kernel) (by decide +kernel)
set_option maxRecDepth 100000 in
theorem mCode_w7 : ∀ w ∈ mms_7.map (fun q => Cond.code q.1 q.2.1 q.2.2.1 q.2.2.2.1), w ∈ gtb := gtb_of [475, 479, 500, 485, 506, 522, 544, 558, 562, 250, 1158, 1041, 1050, 1125, 1137, 1133, 1058, 1062, 1106, 1074] (by decide +kernel) (by decide +kernel)
set_option maxRecDepth 100000 in
theorem mCode_w8 : ∀ w ∈ mms_8.map (fun q => Cond.code q.1 q.2.1 q.2.2.1 q.2.2.2.1), w ∈ gtb := gtb_of [1110, 1114, 1121, 1066, 1101, 1070, 1077, 1117, 1081, 1084, 1095, 99, 317, 352, 398, 450, 471, 577, 599, 631] (by decide +kernel) (by decide +kernel)
set_option maxRecDepth 100000 in
theorem mCode_w9 : ∀ w ∈ mms_9.map (fun q => Cond.code q.1 q.2.1 q.2.2.1 q.2.2.2.1), w ∈ gtb := gtb_of [635, 640, 645, 649, 653, 665, 682, 686, 691, 696, 700, 705, 710, 714, 722, 730, 738, 746, 1018, 1037] (by decide +kernel) (by decide +kernel)
set_option maxRecDepth 100000 in
theorem mCode_w10 : ∀ w ∈ mms_10.map (fun q => Cond.code q.1 q.2.1 q.2.2.1 q.2.2.2.1), w ∈ gtb := gtb_of [1046, 1054, 1141, 1145, 320, 327, 324, 407, 402, 454, 1129, 750, 1153, 1150, 1167, 1170, 1174, 286, 810, 989] (by decide +kernel) (by decide +kernel)
set_option maxRecDepth 100000 in
theorem mCode_w11 : ∀ w ∈ mms_11.map (fun q => Cond.code q.1 q.2.1 q.2.2.1 q.2.2.2.1), w ∈ gtb := gtb_of [983, 986, 799, 876, 873, 1029, 831, 934, 1026, 930, 1022, 948, 886, 889, 758, 979, 828, 971, 796, 792] (by decide +kernel) (by decide +kernel)
set_option maxRecDepth 100000 in
theorem mCode_w12 : ∀ w ∈ mms_12.map (fun q => Cond.code q.1 q.2.1 q.2.2.1 q.2.2.2.1), w ∈ gtb := gtb_of [943, 939, 919, 788, 883, 965, 962, 755, 916, 785, 880, 977, 957] (by decide +kernel) (by decide +kernel)
set_option maxRecDepth 100000 in
theorem mOth_w : ∀ w ∈ [Cond.code objectInit ⟨#[0xb1]⟩ 1 none, Cond.code mlenX cJ5_length_8abf5 1 (some .int), Cond.code Lib.Math.max.name Lib.Math.max.code 2 (some .int), Cond.code Lib.Math.min.name Lib.Math.min.code 2 (some .int), .arrayClass .int, .arrayClass .boolean, .arrayClass .byte, .classLink RJ7 311 "[B"], w ∈ gtb := gtb_of [102, 979, 802, 820, 143, 160, 274, 817] (by decide +kernel) (by decide +kernel)
