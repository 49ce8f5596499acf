/-! ===== the class's calls ===== -/
def gr (Y Y' : mY) : Prop := Y.1 ≤ Y'.1 ∧ Y'.1 ≤ Y.1 + 1000 ∧ Y'.2.1 ≤ Y.2.1 + 10000 ∧ Y'.2.2.2.2.2 = Y.2.2.2.2.2
theorem gr.rf {Y : mY} : gr Y Y := ⟨by omega, by omega, by omega, rfl⟩
def yOk (Y : mY) : Prop := 53 ≤ Y.1 ∧ Y.1 ≤ 600000 ∧ ((∃ a, Y.2.2.2.2.2.2.2 = .ref a) ∨ Y.2.2.2.2.2.2.2 = .null)
def CS (D k : Nat) (args : List Value) (b : mBs) (r : Value) (b' : mBs) : Prop := ∀ (d : Nat) (Y : mY) (F : mF) (M : mM) (L : mL) (Q : Option Value → mW → Prop), yOk Y → BC b Y F M → (∀ Y' F' M' L', BC b' Y' F' M' → frc F M F' M' → gr Y Y' → Q (some r) (mXY Y', F', M', L')) → Cw (d + D) k (.ref 0 :: args) (mXY Y, F, M, L) Q
def RS (D k : Nat) (args : List Value) (b : mBs) (r : Value) (b' : mBs) : Prop := ∀ (d : Nat) (Y : mY) (F : mF) (M : mM) (L : mL) (Q : Option Value → mW → Prop), BR b F M → (∀ F' M' L', BR b' F' M' → frr F M F' M' → Q (some r) (mXY Y, F', M', L')) → Cw (d + D) k (.ref 34 :: args) (mXY Y, F, M, L) Q
theorem CS.up {D D' k : Nat} {args : List Value} {b b' : mBs} {r : Value} (h : CS D k args b r b') (hd : D ≤ D') : CS D' k args b r b' := fun d Y F M L Q hY H hQ => by
  have z := h (d + (D' - D)) Y F M L Q hY H hQ
  rw [show d + (D' - D) + D = d + D' by omega] at z
  exact z
theorem RS.up {D D' k : Nat} {args : List Value} {b b' : mBs} {r : Value} (h : RS D k args b r b') (hd : D ≤ D') : RS D' k args b r b' := fun d Y F M L Q H hQ => by
  have z := h (d + (D' - D)) Y F M L Q H hQ
  rw [show d + (D' - D) + D = d + D' by omega] at z
  exact z
theorem i8_ok {v : Int32} (h : ¬ (v < 0 ∨ 127 < v)) : v.toInt8.toInt32 = v ∧ mnar 3 v = v ∧ narrow .byte (.int v) = .int v := by
  obtain ⟨n, hn, e⟩ := nI_of2 (M := 127) (n := 127) (x := v) rfl (fun q => h (Or.inl q)) (Int32.not_lt.mp fun q => h (Or.inr q))
  rw [e]
  have : ∀ n : Fin 128, (nI n.1).toInt8.toInt32 = nI n.1 := by decide
  have t := this ⟨n, by omega⟩
  exact ⟨t, t, congrArg Value.int t⟩
theorem cs_exists {b : mBs} {v : Int32} : CS 2 179 [.int v] b (.int (oEx b v).1) (oEx b v).2 := fun d Y F M L Q hY H hQ => by
  have z := C_exists (v := v) H
  refine s_X6_exists ?_
  rw [z.1]
  exact hQ Y F _ L z.2.1 z.2.2 gr.rf
theorem cs_isOld {b : mBs} {v : Int32} : CS 3 180 [.int v] b (.int (oIo b v).1) (oIo b v).2 := fun d Y F M L Q hY H hQ => by
  have z := C_isOld (v := v) H
  refine s_X6_isOld ?_
  rw [z.1]
  exact hQ Y F _ L z.2.1 z.2.2 gr.rf
theorem cs_age {b : mBs} {v : Int32} : CS 3 181 [.int v] b (.int (oAg b v).1) (oAg b v).2 := fun d Y F M L Q hY H hQ => by
  have z := C_age (v := v) H
  refine s_X6_age ?_
  rw [z.1]
  exact hQ Y F _ L z.2.1 z.2.2 gr.rf
theorem cs_reference {b : mBs} {i j : Int32} (hI : Inv b.1) : CS 3 182 [.int i, .int j] b (.int (oRf b i j).1) (oRf b i j).2 := fun d Y F M L Q hY H hQ => by
  have z := C_reference (i := i) (j := j) H hI
  refine s_X6_reference ?_
  rw [z.1]
  exact hQ Y F _ L z.2.1 z.2.2 gr.rf
theorem cs_root {b : mBs} {i : Int32} : CS 3 183 [.int i] b (.int (oRt b i).1) (oRt b i).2 := fun d Y F M L Q hY H hQ => by
  have z := C_root (i := i) H
  refine s_X6_root ?_
  rw [z.1]
  exact hQ Y F _ L z.2.1 z.2.2 gr.rf
theorem cs_colour {b : mBs} {v : Int32} : CS 3 184 [.int v] b (.int (oCo b v).1) (oCo b v).2 := fun d Y F M L Q hY H hQ => by
  have z := C_colour (v := v) H
  refine s_X6_colour ?_
  rw [z.1]
  exact hQ Y F _ L z.2.1 z.2.2 gr.rf
theorem cs_youngObject {b : mBs} {i : Int32} : CS 3 187 [.int i] b (.int (oAt (sNu b.1) b i).1) (oAt (sNu b.1) b i).2 := fun d Y F M L Q hY H hQ => by
  have z := C_youngObject (i := i) H
  refine s_X6_youngObject H.1.2.2.2.2.2.2.1.s1 ?_
  rw [z.1]
  exact hQ Y F _ L z.2.1 z.2.2 gr.rf
theorem cs_remembered {b : mBs} {i : Int32} : CS 3 192 [.int i] b (.int (oAt (sKn b.1) b i).1) (oAt (sKn b.1) b i).2 := fun d Y F M L Q hY H hQ => by
  have z := C_remembered (i := i) H
  refine s_X6_remembered H.1.2.2.2.2.2.2.2.1.s1 ?_
  rw [z.1]
  exact hQ Y F _ L z.2.1 z.2.2 gr.rf
theorem cs_youngCount {b : mBs} : CS 2 186 [] b (.int (nI (sNu b.1).length)) b := fun d Y F M L Q hY H hQ => by
  refine s_X6_youngCount ?_
  rw [C_youngCount H]
  exact hQ Y F M L H frc.rf gr.rf
theorem cs_rememberedCount {b : mBs} : CS 2 191 [] b (.int (nI (sKn b.1).length)) b := fun d Y F M L Q hY H hQ => by
  refine s_X6_rememberedCount ?_
  rw [C_rememberedCount H]
  exact hQ Y F M L H frc.rf gr.rf
theorem cs_greyCount {b : mBs} : CS 3 194 [] b (.int (nI (sQu b.1).length)) b := fun d Y F M L Q hY H hQ => by
  refine s_X6_greyCount ?_
  rw [C_greyCount H]
  exact hQ Y F M L H frc.rf gr.rf
theorem cs_youngWords {b : mBs} : CS 2 188 [] b (.int (wds (sG b.1) (sN b.1) 1)) b := fun d Y F M L Q hY H hQ => by
  refine s_X6_youngWords ?_
  rw [C_youngWords H]
  exact hQ Y F M L H frc.rf gr.rf
theorem cs_oldWords {b : mBs} : CS 2 190 [] b (.int (wds (sG b.1) (sN b.1) 2)) b := fun d Y F M L Q hY H hQ => by
  refine s_X6_oldWords ?_
  rw [C_oldWords H]
  exact hQ Y F M L H frc.rf gr.rf
theorem cs_oldCount {b : mBs} : CS 2 189 [] b (.int (cnt (sG b.1) 2)) b := fun d Y F M L Q hY H hQ => by
  refine s_X6_oldCount ?_
  rw [C_oldCount H]
  exact hQ Y F M L H frc.rf gr.rf
theorem cs_phase {b : mBs} : CS 2 193 [] b (.int (sPh b.1)) b := fun d Y F M L Q hY H hQ => by
  refine s_X6_phase ?_
  rw [C_phase H]
  exact hQ Y F M L H frc.rf gr.rf
theorem cs_majorCount {b : mBs} : CS 2 196 [] b (.int (sMa b.1)) b := fun d Y F M L Q hY H hQ => by
  refine s_X6_majorCount ?_
  rw [C_majorCount H]
  exact hQ Y F M L H frc.rf gr.rf
theorem cs_promotionFailures {b : mBs} : CS 2 195 [] b (.int (sFa b.1)) b := fun d Y F M L Q hY H hQ => by
  refine s_X6_promotionFailures ?_
  rw [C_promotionFailures H]
  exact hQ Y F M L H frc.rf gr.rf
set_option maxRecDepth 100000 in
theorem cs_allocate {b : mBs} {v : Int32} (hI : Inv b.1) : CS 6 173 [.int v] b (.int (oAl b v).1) (oAl b v).2 := fun d Y F M L Q hY H hQ => by
  refine Cw_in rfl rfl ?_
  refine r_aload_n (p := 1) rfl rfl rfl ?_
  refine r_aload_n (p := 2) rfl rfl rfl ?_
  refine r_getR (p := 5) rfl rfl rfl rfl rfl ?_
  refine r_iload_n (p := 6) rfl rfl rfl ?_
  refine r_cV (p := 9) rfl rfl rfl (Nat.le_of_ble_eq_true rfl) rfl (s_X0_place H.1 hI (fun F1 M1 R1 f1 => ?_))
  refine r_cV (p := 12) rfl rfl rfl (Nat.le_of_ble_eq_true rfl) rfl (s_X6_counted ?_)
  rw [f_cnt]
  have z := (H.hp R1 f1).cnt (aloc b.1 v).1
  refine r_ireturn rfl trivial ?_
  exact hQ Y _ _ L z.1 (f1.c.tr z.2) gr.rf
set_option maxRecDepth 100000 in
theorem cs_write {b : mBs} {i j t : Int32} (hI : Inv b.1) : CS 6 174 [.int i, .int j, .int t] b (.int (oWr b i j t).1) (oWr b i j t).2 := fun d Y F M L Q hY H hQ => by
  refine Cw_in rfl rfl ?_
  refine r_aload_n (p := 1) rfl rfl rfl ?_
  refine r_aload_n (p := 2) rfl rfl rfl ?_
  refine r_iload_n (p := 3) rfl rfl rfl ?_
  refine r_iload_n (p := 4) rfl rfl rfl ?_
  refine r_iload_n (p := 5) rfl rfl rfl ?_
  refine r_cV (p := 8) rfl rfl rfl (Nat.le_of_ble_eq_true rfl) rfl (s_X6_storeInField H.1 hI (fun F1 M1 R1 f1 => ?_))
  refine r_cV (p := 11) rfl rfl rfl (Nat.le_of_ble_eq_true rfl) rfl (s_X6_counted ?_)
  rw [f_cnt]
  have z := (H.hp R1 f1).cnt (stF b.1 i j t).1
  refine r_ireturn rfl trivial ?_
  exact hQ Y _ _ L z.1 (f1.c.tr z.2) gr.rf
set_option maxRecDepth 100000 in
theorem cs_setRoot {b : mBs} {i t : Int32} (hI : Inv b.1) : CS 5 175 [.int i, .int t] b (.int (oSr b i t).1) (oSr b i t).2 := fun d Y F M L Q hY H hQ => by
  refine Cw_in rfl rfl ?_
  refine r_aload_n (p := 1) rfl rfl rfl ?_
  refine r_aload_n (p := 2) rfl rfl rfl ?_
  refine r_iload_n (p := 3) rfl rfl rfl ?_
  refine r_iload_n (p := 4) rfl rfl rfl ?_
  refine r_cV (p := 7) rfl rfl rfl (Nat.le_of_ble_eq_true rfl) rfl (s_X6_storeInRoot H.1 hI (fun F1 M1 R1 f1 => ?_))
  refine r_cV (p := 10) rfl rfl rfl (Nat.le_of_ble_eq_true rfl) rfl (s_X6_counted ?_)
  rw [f_cnt]
  have z := (H.hp R1 f1).cnt (stR b.1 i t).1
  refine r_ireturn rfl trivial ?_
  exact hQ Y _ _ L z.1 (f1.c.tr z.2) gr.rf
set_option maxRecDepth 100000 in
theorem cs_startMajor {b : mBs} (hI : Inv b.1) : CS 6 177 [] b (.int (oBg b).1) (oBg b).2 := fun d Y F M L Q hY H hQ => by
  refine Cw_in rfl rfl ?_
  refine r_aload_n (p := 1) rfl rfl rfl ?_
  refine r_aload_n (p := 2) rfl rfl rfl ?_
  refine r_getR (p := 5) rfl rfl rfl rfl rfl ?_
  refine r_cV (p := 8) rfl rfl rfl (Nat.le_of_ble_eq_true rfl) rfl (s_X2_begin H.1 hI (fun F1 M1 R1 f1 => ?_))
  refine r_cV (p := 11) rfl rfl rfl (Nat.le_of_ble_eq_true rfl) rfl (s_X6_counted ?_)
  rw [f_cnt]
  have z := (H.hp R1 f1).cnt (bgn b.1).1
  refine r_ireturn rfl trivial ?_
  exact hQ Y _ _ L z.1 (f1.c.tr z.2) gr.rf
set_option maxRecDepth 100000 in
theorem cs_stepMajor {b : mBs} {v : Int32} (hI : Inv b.1) : CS 6 178 [.int v] b (.int (oSt b v).1) (oSt b v).2 := fun d Y F M L Q hY H hQ => by
  refine Cw_in rfl rfl ?_
  refine r_aload_n (p := 1) rfl rfl rfl ?_
  refine r_aload_n (p := 2) rfl rfl rfl ?_
  refine r_getR (p := 5) rfl rfl rfl rfl rfl ?_
  refine r_iload_n (p := 6) rfl rfl rfl ?_
  refine r_cV (p := 9) rfl rfl rfl (Nat.le_of_ble_eq_true rfl) rfl (s_X2_advance H.1 hI (fun F1 M1 R1 f1 => ?_))
  refine r_cV (p := 12) rfl rfl rfl (Nat.le_of_ble_eq_true rfl) rfl (s_X6_counted ?_)
  rw [f_cnt]
  have z := (H.hp R1 f1).cnt (adv b.1 v).1
  refine r_ireturn rfl trivial ?_
  exact hQ Y _ _ L z.1 (f1.c.tr z.2) gr.rf
set_option maxRecDepth 100000 in
theorem cs_minorCollection {b : mBs} (hI : Inv b.1) : CS 6 176 [] b (.int (oMi b).1) (oMi b).2 := fun d Y F M L Q hY H hQ => by
  refine Cw_in rfl rfl ?_
  refine r_aload_n (p := 1) rfl rfl rfl ?_
  refine r_getR (p := 4) rfl rfl rfl rfl rfl ?_
  refine r_cV (p := 7) rfl rfl rfl (Nat.le_of_ble_eq_true rfl) rfl (s_X3_collect H.1 hI (fun F1 M1 R1 f1 => ?_))
  refine r_ireturn rfl trivial ?_
  exact hQ Y _ _ L (H.hp R1 f1) f1.c gr.rf
set_option maxRecDepth 100000 in
theorem cs_reachableCount {b : mBs} (hI : Inv b.1) : CS 4 185 [] b (.int (nI (rcc b.1).length)) b := fun d Y F M L Q hY H hQ => by
  refine Cw_in rfl rfl ?_
  refine r_aload_n (p := 1) rfl rfl rfl ?_
  refine r_getR (p := 4) rfl rfl rfl rfl rfl ?_
  refine r_cV (p := 7) rfl rfl rfl (Nat.le_of_ble_eq_true rfl) rfl (s_X0_countReachable H.1 hI (fun F1 M1 R1 f1 => ?_))
  refine r_ireturn rfl trivial ?_
  exact hQ Y _ _ L (H.hp R1 f1) f1.c gr.rf
theorem out3 {k : Int32} : (¬ k < 0 ∧ ¬ 2 < k) → ∃ n, n < 3 ∧ k = nI n := fun h => by
  obtain ⟨n, hn, e⟩ := nI_of2 (M := 2) (n := 2) (x := k) rfl h.1 (Int32.not_lt.mp h.2)
  exact ⟨n, by omega, e⟩
theorem vp3 {k : Int32} (h : ¬ k < 0 ∧ ¬ 2 < k) : vp_in k 3 := by
  obtain ⟨n, hn, rfl⟩ := out3 h
  exact vp_in_nI hn (by omega)
set_option maxRecDepth 100000 in
theorem cs_errorCount {b : mBs} {k : Int32} : CS 3 202 [.int k] b (.int (oEc b k).1) (oEc b k).2 := fun d Y F M L Q hY H hQ => by
  refine Cw_in rfl rfl ?_
  refine r_iload_n (p := 1) rfl rfl rfl ?_
  refine r_iconst (v := 0) (p := 2) rfl rfl rfl ?_
  refine r_iconst (v := 2) (p := 3) rfl rfl rfl ?_
  refine r_cS1 (p := 6) rfl rfl (Nat.le_of_ble_eq_true rfl) rfl (s_X6_outside ?_)
  rw [out_eq]
  refine r_if_eq (p := 9) rfl rfl (fun c1 => ?_) (fun c1 => ?_)
  · have ho : ¬ k < 0 ∧ ¬ 2 < k := ⟨fun q => absurd c1 (by rw [if_pos (Or.inl q)]; decide), fun q => absurd c1 (by rw [if_pos (Or.inr q)]; decide)⟩
    obtain ⟨n3, h3, e3⟩ := out3 ho
    have er := H.2.1 n3 h3
    rw [← e3] at er
    refine r_aload_n (p := 19) rfl rfl rfl ?_
    refine r_getR (p := 22) rfl rfl rfl rfl rfl ?_
    refine r_iload_n (p := 23) rfl rfl rfl ?_
    refine r_iald (p := 24) rfl rfl rfl (vp3 ho) rfl ?_
    rw [er]
    have e : oEc b k = (b.2.1 k, b) := if_pos ho
    rw [e] at hQ
    refine r_ireturn rfl trivial ?_
    exact hQ Y F M L H frc.rf gr.rf
  · refine r_aload_n (p := 10) rfl rfl rfl ?_
    refine r_bipush (v := (-2)) (p := 12) rfl rfl rfl ?_
    refine r_cV (p := 15) rfl rfl rfl (Nat.le_of_ble_eq_true rfl) rfl (s_X6_counted ?_)
    rw [f_cnt]
    refine r_goto rfl ?_
    have e : oEc b k = (-2, bE b (-2)) := if_neg (fun q => c1 (if_neg (fun w => w.elim q.1 q.2)))
    rw [e] at hQ
    have z := H.cnt (-2)
    refine r_ireturn rfl trivial ?_
    exact hQ Y F _ L z.1 z.2 gr.rf
theorem LL.len {n : Int32} {f : Int32 → Int32} {l : List Int32} (h : LL n f l) : n = nI l.length := h.1
def tOk (b : mBs) : Prop := b.2.2.1.length ≤ 150 ∧ (∀ x ∈ b.2.2.1, ¬ x < 0 ∧ ¬ 127 < x) ∧ b.2.2.2.length ≤ 64
set_option maxRecDepth 100000 in
theorem s_X5_addByte {d : Nat} {Y : mY} {F : mF} {M : mM} {L : mL} {b : mBs} {v : Int32} {Q : Option Value → mW → Prop} (H : BC b Y F M) (ht : b.2.2.1.length ≤ 150) (hQ : ∀ F' M', BC ((oAp b v).2.1, b.2.1, (oAp b v).2.2.2) Y F' M' → frc F M F' M' → Q (some (.int (oAp b v).1)) (mXY Y, F', M', L)) : Cw (d + 2) 151 [.ref 29, .int v] (mXY Y, F, M, L) Q := by
  have h3 := H.2.2.1
  refine Cw_in rfl rfl ?_
  refine r_iload_n (p := 1) rfl rfl rfl ?_
  refine r_iconst (v := 0) (p := 2) rfl rfl rfl ?_
  refine r_bipush (v := 127) (p := 4) rfl rfl rfl ?_
  refine r_cS7 (p := 7) rfl rfl (Nat.le_of_ble_eq_true rfl) rfl (s_X6_outside ?_)
  rw [out_eq]
  refine r_if_eq (p := 10) rfl rfl (fun c1 => ?_) (fun c1 => ?_)
  · have ho : ¬ (v < 0 ∨ 127 < v) := fun q => absurd c1 (by rw [if_pos q]; decide)
    refine r_aload_n (p := 14) rfl rfl rfl ?_
    refine r_getI (p := 17) rfl rfl rfl rfl ?_
    rw [h3.1]
    refine r_sipush (v := 150) (p := 20) rfl rfl rfl ?_
    refine r_icmp_lt (p := 23) rfl rfl (fun c2 => ?_) (fun c2 => ?_)
    · have hl : b.2.2.1.length < 150 := (nI_ltI (b := 150) (by omega) (by omega)).mp c2
      have e : oAp b v = (nI (b.2.2.1.length + 1), (b.1, b.2.1, b.2.2.1 ++ [v], b.2.2.2)) := by
        unfold oAp
        rw [if_neg ho, if_neg (by omega)]
      rw [e] at hQ
      refine r_aload_n (p := 27) rfl rfl rfl ?_
      refine r_getR (p := 30) rfl rfl rfl rfl rfl ?_
      refine r_aload_n (p := 31) rfl rfl rfl ?_
      refine r_getI (p := 34) rfl rfl rfl rfl ?_
      refine r_iload_n (p := 35) rfl rfl rfl ?_
      refine r_i2b (p := 36) rfl rfl ?_
      rw [(i8_ok ho).1]
      refine r_bast (v := v) (p := 37) rfl rfl rfl (by rw [h3.1]; exact vp_in_nI hl (by omega)) (by decide) (i8_ok ho).2.1 rfl ?_
      refine r_aload_n (p := 38) rfl rfl rfl ?_
      refine r_dup (p := 39) rfl rfl rfl ?_
      refine r_getI (p := 42) rfl rfl rfl rfl ?_
      refine r_iconst (v := 1) (p := 43) rfl rfl rfl ?_
      refine r_iadd (p := 44) rfl rfl ?_
      refine r_putI (p := 47) rfl rfl rfl rfl ?_
      refine r_aload_n (p := 48) rfl rfl rfl ?_
      refine r_getI (p := 51) rfl rfl rfl rfl ?_
      have z := hQ (uF F 29 3 (F 29 3 + 1)) (uM M 32 (F 29 3) v) ?_ ?_
      · refine r_ireturn rfl trivial ?_
        have e9 : (uF F 29 3 (F 29 3 + 1)) 29 3 = nI (b.2.2.1.length + 1) := by show F 29 3 + 1 = _; rw [h3.1, nI_1]
        rw [← e9] at z
        exact z
      · obtain ⟨h1, h2, h3, x, h4, h5⟩ := H
        exact ⟨h1.fr (fun a k ha => uF_ne (by omega)) (fun a i ha => uM_ne (by omega)), fun k hk => by rw [uM_ne (by omega)]; exact h2 k hk, h3.app (by omega) v, x, h4, h5.fr (fun a k ha => uF_ne (by omega)) (fun a i ha => uM_ne (by omega))⟩
      · exact ⟨fun k => uF_ne (by omega), fun a i ha hb => uM_ne (by omega)⟩
    · refine r_bipush (v := (-4)) (p := 25) rfl rfl rfl ?_
      have e : oAp b v = (-4, bE b (-4)) := by
        unfold oAp
        rw [if_neg ho, if_pos (Nat.le_of_not_lt fun q => c2 ((nI_ltI (b := 150) (by omega) (by omega)).mpr q))]
      rw [e] at hQ
      refine r_ireturn rfl trivial ?_
      exact hQ F M H frc.rf
  · refine r_bipush (v := (-2)) (p := 12) rfl rfl rfl ?_
    have ho : v < 0 ∨ 127 < v := Classical.byContradiction fun q => c1 (if_neg q)
    have e : oAp b v = (-2, bE b (-2)) := if_pos ho
    rw [e] at hQ
    refine r_ireturn rfl trivial ?_
    exact hQ F M H frc.rf
theorem oAp_e {b : mBs} {v : Int32} (ht : b.2.2.1.length ≤ 150) : (oAp b v).2 = ((oAp b v).2.1, cE b.2.1 (oAp b v).1, (oAp b v).2.2.2) := by
  unfold oAp
  split
  · rfl
  · split
    · rfl
    · show (b.1, b.2.1, _) = (b.1, cE b.2.1 (nI (b.2.2.1.length + 1)), _)
      have h : ¬ nI (b.2.2.1.length + 1) < -1 := fun q => absurd (Int32.lt_trans q (by decide)) (nI_pos (n := b.2.2.1.length + 1) (by omega))
      have e : cE b.2.1 (nI (b.2.2.1.length + 1)) = b.2.1 := if_neg (fun z => by rcases z with q | q | q <;> exact h (by rw [q]; decide))
      rw [e]
set_option maxRecDepth 100000 in
theorem cs_append {b : mBs} {v : Int32} (ht : b.2.2.1.length ≤ 150) : CS 3 199 [.int v] b (.int (oAp b v).1) (oAp b v).2 := fun d Y F M L Q hY H hQ => by
  refine Cw_in rfl rfl ?_
  refine r_aload_n (p := 1) rfl rfl rfl ?_
  refine r_aload_n (p := 2) rfl rfl rfl ?_
  refine r_getR (p := 5) rfl rfl rfl rfl rfl ?_
  refine r_iload_n (p := 6) rfl rfl rfl ?_
  refine r_cV (p := 9) rfl rfl rfl (Nat.le_of_ble_eq_true rfl) rfl (s_X5_addByte H ht (fun F1 M1 R1 f1 => ?_))
  refine r_cV (p := 12) rfl rfl rfl (Nat.le_of_ble_eq_true rfl) rfl (s_X6_counted ?_)
  rw [f_cnt]
  have z := R1.cnt (oAp b v).1
  refine r_ireturn rfl trivial ?_
  refine hQ Y _ _ L ?_ (f1.tr z.2) gr.rf
  have e : (oAp b v).2 = ((oAp b v).2.1, cE b.2.1 (oAp b v).1, (oAp b v).2.2.2) := oAp_e ht
  rw [e]
  exact z.1
def f_X5_clear (F : mF) (M : mM) : Int32 := (F 29 3)
def gF_X5_clear (F : mF) (M : mM) : mF := (uF F 29 3 0)
set_option maxRecDepth 100000 in
theorem s_X5_clear {d : Nat} {Y : mY} {F : mF} {M : mM} {L : mL} {Q : Option Value → mW → Prop} (hQ : Q (some (.int (f_X5_clear F M))) ((mXY Y), gF_X5_clear F M, M, L)) : Cw (d + 1) 152 [.ref 29] ((mXY Y), F, M, L) Q := by
  refine Cw_in rfl rfl ?_
  refine r_aload_n (p := 1) rfl rfl rfl ?_
  refine r_getI (p := 4) rfl rfl rfl rfl ?_
  refine r_istore_n (p := 5) rfl rfl rfl ?_
  refine r_aload_n (p := 6) rfl rfl rfl ?_
  refine r_iconst (v := 0) (p := 7) rfl rfl rfl ?_
  refine r_putI (p := 10) rfl rfl rfl rfl ?_
  refine r_iload_n (p := 11) rfl rfl rfl ?_
  refine r_ireturn rfl trivial ?_
  simp only [f_X5_clear, gF_X5_clear] at hQ; exact hQ
set_option maxRecDepth 100000 in
theorem cs_clearText {b : mBs} : CS 2 200 [] b (.int (oCl b).1) (oCl b).2 := fun d Y F M L Q hY H hQ => by
  refine Cw_in rfl rfl ?_
  refine r_aload_n (p := 1) rfl rfl rfl ?_
  refine r_getR (p := 4) rfl rfl rfl rfl rfl ?_
  refine r_cV (p := 7) rfl rfl rfl (Nat.le_of_ble_eq_true rfl) rfl (s_X5_clear ?_)
  rw [show f_X5_clear F M = nI b.2.2.1.length from H.2.2.1.1]
  refine r_ireturn rfl trivial ?_
  refine hQ Y _ _ L ?_ ⟨fun k => uF_ne (by omega), fun _ _ _ _ => rfl⟩ gr.rf
  obtain ⟨h1, h2, h3, x, h4, h5⟩ := H
  exact ⟨h1.fr (fun a k ha => uF_ne (by omega)) (fun _ _ _ => rfl), h2, LL.nil, x, h4, h5.fr (fun a k ha => uF_ne (by omega)) (fun _ _ _ => rfl)⟩
set_option maxRecDepth 100000 in
theorem cs_reset {b : mBs} {x y z : Int32} (hI : Inv b.1) : CS 4 172 [.int x, .int y, .int z] b (.int (oRs b x y z).1) (oRs b x y z).2 := fun d Y F M L Q hY H hQ => by
  refine Cw_in rfl rfl ?_
  refine r_iload_n (p := 1) rfl rfl rfl ?_
  refine r_bipush (v := 8) (p := 3) rfl rfl rfl ?_
  refine r_bipush (v := 64) (p := 5) rfl rfl rfl ?_
  refine r_cS1 (p := 8) rfl rfl (Nat.le_of_ble_eq_true rfl) rfl (s_X6_outside ?_)
  rw [out_eq]
  refine r_if_ne (p := 11) rfl rfl (fun c1 => ?_) (fun c1 => ?_)
  · refine r_aload_n (p := 33) rfl rfl rfl ?_
    refine r_bipush (v := (-2)) (p := 35) rfl rfl rfl ?_
    refine r_cV (p := 38) rfl rfl rfl (Nat.le_of_ble_eq_true rfl) rfl (s_X6_counted ?_)
    rw [f_cnt]
    have hq : _ ∨ _ := Classical.byContradiction fun q => c1 (if_neg q)
    have e : oRs b x y z = (-2, bE b (-2)) := if_pos (Or.inl hq)
    rw [e] at hQ
    have z := H.cnt (-2)
    refine r_ireturn rfl trivial ?_
    exact hQ Y F _ L z.1 z.2 gr.rf
  · refine r_iload_n (p := 12) rfl rfl rfl ?_
    refine r_bipush (v := 16) (p := 14) rfl rfl rfl ?_
    refine r_sipush (v := 128) (p := 17) rfl rfl rfl ?_
    refine r_cS1 (p := 20) rfl rfl (Nat.le_of_ble_eq_true rfl) rfl (s_X6_outside ?_)
    rw [out_eq]
    refine r_if_ne (p := 23) rfl rfl (fun c2 => ?_) (fun c2 => ?_)
    · refine r_aload_n (p := 33) rfl rfl rfl ?_
      refine r_bipush (v := (-2)) (p := 35) rfl rfl rfl ?_
      refine r_cV (p := 38) rfl rfl rfl (Nat.le_of_ble_eq_true rfl) rfl (s_X6_counted ?_)
      rw [f_cnt]
      have hq : _ ∨ _ := Classical.byContradiction fun q => c2 (if_neg q)
      have e : oRs b x y z = (-2, bE b (-2)) := if_pos (Or.inr (Or.inl hq))
      rw [e] at hQ
      have z := H.cnt (-2)
      refine r_ireturn rfl trivial ?_
      exact hQ Y F _ L z.1 z.2 gr.rf
    · refine r_iload_n (p := 24) rfl rfl rfl ?_
      refine r_iconst (v := 1) (p := 25) rfl rfl rfl ?_
      refine r_iconst (v := 5) (p := 26) rfl rfl rfl ?_
      refine r_cS1 (p := 29) rfl rfl (Nat.le_of_ble_eq_true rfl) rfl (s_X6_outside ?_)
      rw [out_eq]
      refine r_if_eq (p := 32) rfl rfl (fun c3 => ?_) (fun c3 => ?_)
      · refine r_aload_n (p := 40) rfl rfl rfl ?_
        refine r_getR (p := 43) rfl rfl rfl rfl rfl ?_
        refine r_cV (p := 46) rfl rfl rfl (Nat.le_of_ble_eq_true rfl) rfl (s_X0_nursery  ?_)
        refine r_cV (p := 49) rfl rfl rfl (Nat.le_of_ble_eq_true rfl) rfl (s_X1_size (mIL_9 Y) ?_)
        rw [show f_X1_size F M 9 = nI (sNu b.1).length from H.1.2.2.2.2.2.2.1.1]
        refine r_aload_n (p := 50) rfl rfl rfl ?_
        refine r_getR (p := 53) rfl rfl rfl rfl rfl ?_
        refine r_cV (p := 56) rfl rfl rfl (Nat.le_of_ble_eq_true rfl) rfl (s_X4_oldObjects ?_)
        rw [show f_X4_oldObjects F M = cnt (sG b.1) 2 from H.1.2.2.2.2.2.2.2.2.2.2.2.1.2.2.2]
        refine r_iadd (p := 57) rfl rfl ?_
        refine r_istore (p := 59) rfl rfl rfl ?_
        refine r_aload_n (p := 60) rfl rfl rfl ?_
        refine r_getR (p := 63) rfl rfl rfl rfl rfl ?_
        refine r_iload_n (p := 64) rfl rfl rfl ?_
        refine r_iload_n (p := 65) rfl rfl rfl ?_
        refine r_iload_n (p := 66) rfl rfl rfl ?_
        refine r_cV (p := 69) rfl rfl rfl (Nat.le_of_ble_eq_true rfl) rfl (s_X0_restart (fun F1 M1 f1 g1 m1 a3 a8 i9 i12 e1 e2 => ?_))
        refine r_aload_n (p := 70) rfl rfl rfl ?_
        refine r_getR (p := 73) rfl rfl rfl rfl rfl ?_
        refine r_cV (p := 76) rfl rfl rfl (Nat.le_of_ble_eq_true rfl) rfl (s_X2_restart (fun F2 M2 f2 g2 m2 i19 i22 e3 => ?_))
        refine r_aload_n (p := 77) rfl rfl rfl ?_
        refine r_getR (p := 80) rfl rfl rfl rfl rfl ?_
        refine r_cV (p := 83) rfl rfl rfl (Nat.le_of_ble_eq_true rfl) rfl (s_X3_restart ?_)
        refine r_iload (p := 85) rfl rfl rfl ?_
        have e : oRs b x y z = (nI (sNu b.1).length + cnt (sG b.1) 2, (rstS b.1 x y z, b.2)) := if_neg (fun q => by
          rcases q with q | q | q
          · exact absurd c1 (by rw [if_pos q]; decide)
          · exact absurd c2 (by rw [if_pos q]; decide)
          · exact absurd c3 (by rw [if_pos q]; decide))
        rw [e] at hQ
        have fC : frC F M (gF_X3_restart F2 M2) M2 := f1.tr (f2.tr ⟨fun a k ha => (uF_ne (by omega)).trans (uF_ne (by omega)), fun _ _ _ => rfl⟩)
        refine r_ireturn rfl trivial ?_
        refine hQ Y _ _ L (H.hp ?_ fC) fC.c gr.rf
        obtain ⟨w1, w2, w3, w4, w5, w6, l1, l2, l3, l4, v1, v2, v3, v4⟩ := H.1
        have g0 : ∀ a k, a ≠ 25 → gF_X3_restart F2 M2 a k = F2 a k := fun a k ha => (uF_ne ha).trans (uF_ne ha)
        refine ⟨fun i hi => ?_, fun i hi => ?_, fun i hi => ?_, fun i hi q _ => absurd q (by show ¬ (0 : Int32) = 2; decide), fun i j hi q => absurd rfl q, fun k hk => ?_, ?_, ?_, ?_, ?_, ?_, ?_, ?_, ?_⟩
        · obtain ⟨k, hk, rfl⟩ := inR_of hi
          rw [m2 _ _ (by omega) (by omega) (by omega) (by omega)]; exact a3 k hk
        · rw [m2 _ _ (by omega) (by omega) (by omega) (by omega), m1 _ _ (by omega) (by omega) (by omega) (by omega) (by omega) (by omega)]; exact w2 i hi
        · rw [m2 _ _ (by omega) (by omega) (by omega) (by omega), m1 _ _ (by omega) (by omega) (by omega) (by omega) (by omega) (by omega)]; exact w3 i hi
        · rw [m2 _ _ (by omega) (by omega) (by omega) (by omega)]; exact a8 k hk
        · exact i9.fr ((g0 _ _ (by omega)).trans (g2 _ _ (by omega) (by omega) (by omega))) (fun i => m2 _ _ (by omega) (by omega) (by omega) (by omega)) (fun i => m2 _ _ (by omega) (by omega) (by omega) (by omega))
        · exact i12.fr ((g0 _ _ (by omega)).trans (g2 _ _ (by omega) (by omega) (by omega))) (fun i => m2 _ _ (by omega) (by omega) (by omega) (by omega)) (fun i => m2 _ _ (by omega) (by omega) (by omega) (by omega))
        · exact i19.fr (g0 _ _ (by omega)) (fun _ => rfl) (fun _ => rfl)
        · exact i22.fr (g0 _ _ (by omega)) (fun _ => rfl) (fun _ => rfl)
        · have t : ∀ k, gF_X3_restart F2 M2 1 k = F1 1 k := fun k => (g0 _ _ (by omega)).trans (g2 _ _ (by omega) (by omega) (by omega))
          exact ⟨by rw [t]; exact e1.1, by rw [t]; exact e1.2.1, by rw [t]; exact e1.2.2⟩
        · have t : ∀ k, gF_X3_restart F2 M2 2 k = F1 2 k := fun k => (g0 _ _ (by omega)).trans (g2 _ _ (by omega) (by omega) (by omega))
          have w0 : ∀ k : Int32, ¬ k = 0 → wds (fun _ => 0) (sN b.1) k = 0 := fun k hk => sumL_0 (fun x _ => if_neg (fun q => hk q.symm))
          have c0 : cnt (fun _ => 0) 2 = 0 := sumL_0 (fun x _ => if_neg (show ¬ (0 : Int32) = 2 by decide))
          refine ⟨by rw [t]; exact e2.1, ?_, ?_, ?_⟩
          · rw [t]; exact e2.2.1.trans (w0 1 (by decide)).symm
          · rw [t]; exact e2.2.2.1.trans (w0 2 (by decide)).symm
          · rw [t]; exact e2.2.2.2.trans c0.symm
        · exact ⟨(g0 _ _ (by omega)).trans e3.1, (g0 _ _ (by omega)).trans e3.2⟩
        · exact ⟨rfl, rfl⟩
      · refine r_aload_n (p := 33) rfl rfl rfl ?_
        refine r_bipush (v := (-2)) (p := 35) rfl rfl rfl ?_
        refine r_cV (p := 38) rfl rfl rfl (Nat.le_of_ble_eq_true rfl) rfl (s_X6_counted ?_)
        rw [f_cnt]
        have hq : _ ∨ _ := Classical.byContradiction fun q => c3 (if_neg q)
        have e : oRs b x y z = (-2, bE b (-2)) := if_pos (Or.inr (Or.inr hq))
        rw [e] at hQ
        have z := H.cnt (-2)
        refine r_ireturn rfl trivial ?_
        exact hQ Y F _ L z.1 z.2 gr.rf
