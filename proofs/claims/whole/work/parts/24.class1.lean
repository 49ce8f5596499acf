theorem live_in {F : mF} {M : mM} {i : Int32} (h : ¬ f_X4_isLive F M i = 0) : inR i ∧ ¬ M 3 i = 0 := by
  unfold f_X4_isLive at h
  split at h
  · exact absurd rfl h
  · split at h
    · exact absurd rfl h
    · split at h
      · exact absurd rfl h
      · exact ⟨⟨‹_›, ‹_›⟩, ‹_›⟩
theorem nurs_in {F : mF} {M : mM} {i : Int32} (h : ¬ f_X4_inNursery F M i = 0) : inR i ∧ M 3 i = 1 := by
  unfold f_X4_inNursery at h
  split at h
  · exact absurd rfl h
  · split at h
    · exact absurd rfl h
    · split at h
      · exact ⟨⟨‹_›, ‹_›⟩, ‹_›⟩
      · exact absurd rfl h
theorem old_in {F : mF} {M : mM} {i : Int32} (h : ¬ f_X4_inOldGeneration F M i = 0) : inR i ∧ M 3 i = 2 := by
  unfold f_X4_inOldGeneration at h
  split at h
  · exact absurd rfl h
  · split at h
    · exact absurd rfl h
    · split at h
      · exact ⟨⟨‹_›, ‹_›⟩, ‹_›⟩
      · exact absurd rfl h
theorem fld_in {F : mF} {M : mM} {i f : Int32} (h : ¬ f_X4_hasField F M i f = 0) : (inR i ∧ ¬ M 3 i = 0) ∧ ¬ f < 0 ∧ f < M 5 i := by
  unfold f_X4_hasField at h
  split at h
  · exact absurd rfl h
  · rename_i h1
    have h1 := live_in h1
    split at h
    · exact absurd rfl h
    · split at h
      · exact absurd rfl h
      · rename_i h2 h3
        simp only [f_X4_fieldsOf, if_neg h1.1.1, if_neg h1.1.2] at h3
        exact ⟨h1, h2, Int32.not_le.mp h3⟩
def gM_X4_setField (F : mF) (M : mM) (i : Int32) (f : Int32) (t : Int32) : mM := (if (f_X4_hasField F M i f) = 0 then M else (uM M 7 ((i * 4) + f) t))
set_option maxRecDepth 100000 in
theorem s_X4_setField {d : Nat} {Y : mY} {F : mF} {M : mM} {L : mL} {i : Int32} {f : Int32} {t : Int32} {Q : Option Value → mW → Prop} (h5 : ∀ i, inR i → M 5 i ≤ 4) (hQ : Q none ((mXY Y), F, gM_X4_setField F M i f t, L)) : Cw (d + 3) 98 [.ref 2, .int i, .int f, .int t] ((mXY Y), F, M, L) Q := by
  refine Cw_in rfl rfl ?_
  refine r_aload_n (p := 1) rfl rfl rfl ?_
  refine r_iload_n (p := 2) rfl rfl rfl ?_
  refine r_iload_n (p := 3) rfl rfl rfl ?_
  refine r_cV (p := 6) rfl rfl rfl (Nat.le_of_ble_eq_true rfl) rfl (s_X4_hasField  ?_)
  refine r_if_eq (p := 9) rfl rfl (fun c1 => ?_) (fun c1 => ?_)
  · refine r_return rfl ?_
    simp only [gM_X4_setField, if_pos c1] at hQ; exact hQ
  · refine r_aload_n (p := 10) rfl rfl rfl ?_
    refine r_getR (p := 13) rfl rfl rfl rfl rfl ?_
    refine r_iload_n (p := 14) rfl rfl rfl ?_
    refine r_iconst (v := 4) (p := 15) rfl rfl rfl ?_
    refine r_imul (p := 16) rfl rfl ?_
    refine r_iload_n (p := 17) rfl rfl rfl ?_
    refine r_iadd (p := 18) rfl rfl ?_
    refine r_iload_n (p := 19) rfl rfl rfl ?_
    refine r_iast (p := 20) rfl rfl rfl (by have z := fld_in c1; exact vp_fld z.1.1.1 z.1.1.2 z.2.1 (fun q => absurd (Int32.lt_of_lt_of_le z.2.2 (h5 i z.1.1)) (Int32.not_lt.mpr q))) (by decide) rfl ?_
    refine r_return rfl ?_
    simp only [gM_X4_setField, if_neg c1] at hQ; exact hQ
def gF_X4_promote (F : mF) (M : mM) (i : Int32) : mF := (if (f_X4_inNursery F M i) = 0 then F else (uF (uF (uF F 2 6 ((F 2 6) - (f_X4_sizeOf F (uM M 3 i 2) i))) 2 7 ((F 2 7) + (f_X4_sizeOf (uF F 2 6 ((F 2 6) - (f_X4_sizeOf F (uM M 3 i 2) i))) (uM M 3 i 2) i))) 2 8 ((F 2 8) + 1)))
def gM_X4_promote (F : mF) (M : mM) (i : Int32) : mM := (if (f_X4_inNursery F M i) = 0 then M else (uM M 3 i 2))
set_option maxRecDepth 100000 in
theorem s_X4_promote {d : Nat} {Y : mY} {F : mF} {M : mM} {L : mL} {i : Int32} {Q : Option Value → mW → Prop} (hQ : Q none ((mXY Y), gF_X4_promote F M i, gM_X4_promote F M i, L)) : Cw (d + 2) 103 [.ref 2, .int i] ((mXY Y), F, M, L) Q := by
  refine Cw_in rfl rfl ?_
  refine r_aload_n (p := 1) rfl rfl rfl ?_
  refine r_iload_n (p := 2) rfl rfl rfl ?_
  refine r_cV (p := 5) rfl rfl rfl (Nat.le_of_ble_eq_true rfl) rfl (s_X4_inNursery  ?_)
  refine r_if_eq (p := 8) rfl rfl (fun c1 => ?_) (fun c1 => ?_)
  · refine r_return rfl ?_
    simp only [gF_X4_promote, gM_X4_promote, if_pos c1] at hQ; exact hQ
  · refine r_aload_n (p := 9) rfl rfl rfl ?_
    refine r_getR (p := 12) rfl rfl rfl rfl rfl ?_
    refine r_iload_n (p := 13) rfl rfl rfl ?_
    refine r_iconst (v := 2) (p := 14) rfl rfl rfl ?_
    refine r_iast (p := 15) rfl rfl rfl (by have z := nurs_in c1; exact vpi (v := 100) (by decide) rfl z.1.1 z.1.2) (by decide) rfl ?_
    refine r_aload_n (p := 16) rfl rfl rfl ?_
    refine r_dup (p := 17) rfl rfl rfl ?_
    refine r_getI (p := 20) rfl rfl rfl rfl ?_
    refine r_aload_n (p := 21) rfl rfl rfl ?_
    refine r_iload_n (p := 22) rfl rfl rfl ?_
    refine r_cV (p := 25) rfl rfl rfl (Nat.le_of_ble_eq_true rfl) rfl (s_X4_sizeOf  ?_)
    refine r_isub (p := 26) rfl rfl ?_
    refine r_putI (p := 29) rfl rfl rfl rfl ?_
    refine r_aload_n (p := 30) rfl rfl rfl ?_
    refine r_dup (p := 31) rfl rfl rfl ?_
    refine r_getI (p := 34) rfl rfl rfl rfl ?_
    refine r_aload_n (p := 35) rfl rfl rfl ?_
    refine r_iload_n (p := 36) rfl rfl rfl ?_
    refine r_cV (p := 39) rfl rfl rfl (Nat.le_of_ble_eq_true rfl) rfl (s_X4_sizeOf  ?_)
    refine r_iadd (p := 40) rfl rfl ?_
    refine r_putI (p := 43) rfl rfl rfl rfl ?_
    refine r_aload_n (p := 44) rfl rfl rfl ?_
    refine r_dup (p := 45) rfl rfl rfl ?_
    refine r_getI (p := 48) rfl rfl rfl rfl ?_
    refine r_iconst (v := 1) (p := 49) rfl rfl rfl ?_
    refine r_iadd (p := 50) rfl rfl ?_
    refine r_putI (p := 53) rfl rfl rfl rfl ?_
    refine r_return rfl ?_
    simp only [gF_X4_promote, gM_X4_promote, if_neg c1] at hQ; exact hQ
def gF_X4_free (F : mF) (M : mM) (i : Int32) : mF := (if (f_X4_inNursery F M i) = 0 then (if (f_X4_inOldGeneration F M i) = 0 then F else (uF (uF F 2 7 ((F 2 7) - (f_X4_sizeOf F M i))) 2 8 ((F 2 8) - 1))) else (uF F 2 6 ((F 2 6) - (f_X4_sizeOf F M i))))
def gM_X4_free (F : mF) (M : mM) (i : Int32) : mM := (if (f_X4_inNursery F M i) = 0 then (if (f_X4_inOldGeneration F M i) = 0 then M else (uM M 3 i 0)) else (uM M 3 i 0))
set_option maxRecDepth 100000 in
theorem s_X4_free {d : Nat} {Y : mY} {F : mF} {M : mM} {L : mL} {i : Int32} {Q : Option Value → mW → Prop} (hQ : Q none ((mXY Y), gF_X4_free F M i, gM_X4_free F M i, L)) : Cw (d + 2) 104 [.ref 2, .int i] ((mXY Y), F, M, L) Q := by
  refine Cw_in rfl rfl ?_
  refine r_aload_n (p := 1) rfl rfl rfl ?_
  refine r_iload_n (p := 2) rfl rfl rfl ?_
  refine r_cV (p := 5) rfl rfl rfl (Nat.le_of_ble_eq_true rfl) rfl (s_X4_inNursery  ?_)
  refine r_if_eq (p := 8) rfl rfl (fun c1 => ?_) (fun c1 => ?_)
  · refine r_aload_n (p := 33) rfl rfl rfl ?_
    refine r_iload_n (p := 34) rfl rfl rfl ?_
    refine r_cV (p := 37) rfl rfl rfl (Nat.le_of_ble_eq_true rfl) rfl (s_X4_inOldGeneration  ?_)
    refine r_if_eq (p := 40) rfl rfl (fun c2 => ?_) (fun c2 => ?_)
    · refine r_return rfl ?_
      simp only [gF_X4_free, gM_X4_free, if_pos c1, if_pos c2] at hQ; exact hQ
    · refine r_aload_n (p := 41) rfl rfl rfl ?_
      refine r_dup (p := 42) rfl rfl rfl ?_
      refine r_getI (p := 45) rfl rfl rfl rfl ?_
      refine r_aload_n (p := 46) rfl rfl rfl ?_
      refine r_iload_n (p := 47) rfl rfl rfl ?_
      refine r_cV (p := 50) rfl rfl rfl (Nat.le_of_ble_eq_true rfl) rfl (s_X4_sizeOf  ?_)
      refine r_isub (p := 51) rfl rfl ?_
      refine r_putI (p := 54) rfl rfl rfl rfl ?_
      refine r_aload_n (p := 55) rfl rfl rfl ?_
      refine r_dup (p := 56) rfl rfl rfl ?_
      refine r_getI (p := 59) rfl rfl rfl rfl ?_
      refine r_iconst (v := 1) (p := 60) rfl rfl rfl ?_
      refine r_isub (p := 61) rfl rfl ?_
      refine r_putI (p := 64) rfl rfl rfl rfl ?_
      refine r_aload_n (p := 65) rfl rfl rfl ?_
      refine r_getR (p := 68) rfl rfl rfl rfl rfl ?_
      refine r_iload_n (p := 69) rfl rfl rfl ?_
      refine r_iconst (v := 0) (p := 70) rfl rfl rfl ?_
      refine r_iast (p := 71) rfl rfl rfl (by have z := old_in c2; exact vpi (v := 100) (by decide) rfl z.1.1 z.1.2) (by decide) rfl ?_
      refine r_return rfl ?_
      simp only [gF_X4_free, gM_X4_free, if_pos c1, if_neg c2] at hQ; exact hQ
  · refine r_aload_n (p := 9) rfl rfl rfl ?_
    refine r_dup (p := 10) rfl rfl rfl ?_
    refine r_getI (p := 13) rfl rfl rfl rfl ?_
    refine r_aload_n (p := 14) rfl rfl rfl ?_
    refine r_iload_n (p := 15) rfl rfl rfl ?_
    refine r_cV (p := 18) rfl rfl rfl (Nat.le_of_ble_eq_true rfl) rfl (s_X4_sizeOf  ?_)
    refine r_isub (p := 19) rfl rfl ?_
    refine r_putI (p := 22) rfl rfl rfl rfl ?_
    refine r_aload_n (p := 23) rfl rfl rfl ?_
    refine r_getR (p := 26) rfl rfl rfl rfl rfl ?_
    refine r_iload_n (p := 27) rfl rfl rfl ?_
    refine r_iconst (v := 0) (p := 28) rfl rfl rfl ?_
    refine r_iast (p := 29) rfl rfl rfl (by have z := nurs_in c1; exact vpi (v := 100) (by decide) rfl z.1.1 z.1.2) (by decide) rfl ?_
    refine r_goto rfl ?_
    refine r_return rfl ?_
    simp only [gF_X4_free, gM_X4_free, if_neg c1] at hQ; exact hQ
set_option maxRecDepth 100000 in
theorem s_X0_table {d : Nat} {Y : mY} {F : mF} {M : mM} {L : mL} {Q : Option Value → mW → Prop} (hQ : Q (some (.ref 2)) ((mXY Y), F, M, L)) : Cw (d + 1) 107 [.ref 1] ((mXY Y), F, M, L) Q := by
  refine Cw_in rfl rfl ?_
  refine r_aload_n (p := 1) rfl rfl rfl ?_
  refine r_getR (p := 4) rfl rfl rfl rfl rfl ?_
  refine r_areturn rfl ?_
  exact hQ
set_option maxRecDepth 100000 in
theorem s_X0_nursery {d : Nat} {Y : mY} {F : mF} {M : mM} {L : mL} {Q : Option Value → mW → Prop} (hQ : Q (some (.ref 9)) ((mXY Y), F, M, L)) : Cw (d + 1) 108 [.ref 1] ((mXY Y), F, M, L) Q := by
  refine Cw_in rfl rfl ?_
  refine r_aload_n (p := 1) rfl rfl rfl ?_
  refine r_getR (p := 4) rfl rfl rfl rfl rfl ?_
  refine r_areturn rfl ?_
  exact hQ
set_option maxRecDepth 100000 in
theorem s_X0_rememberedSet {d : Nat} {Y : mY} {F : mF} {M : mM} {L : mL} {Q : Option Value → mW → Prop} (hQ : Q (some (.ref 12)) ((mXY Y), F, M, L)) : Cw (d + 1) 109 [.ref 1] ((mXY Y), F, M, L) Q := by
  refine Cw_in rfl rfl ?_
  refine r_aload_n (p := 1) rfl rfl rfl ?_
  refine r_getR (p := 4) rfl rfl rfl rfl rfl ?_
  refine r_areturn rfl ?_
  exact hQ
def f_X0_isTenured (F : mF) (M : mM) (i : Int32) : Int32 := (if (f_X4_ageOf F M i) < (F 1 7) then 0 else 1)
set_option maxRecDepth 100000 in
theorem s_X0_isTenured {d : Nat} {Y : mY} {F : mF} {M : mM} {L : mL} {i : Int32} {Q : Option Value → mW → Prop} (hQ : Q (some (.int (f_X0_isTenured F M i))) ((mXY Y), F, M, L)) : Cw (d + 2) 110 [.ref 1, .int i] ((mXY Y), F, M, L) Q := by
  refine Cw_in rfl rfl ?_
  refine r_aload_n (p := 1) rfl rfl rfl ?_
  refine r_getR (p := 4) rfl rfl rfl rfl rfl ?_
  refine r_iload_n (p := 5) rfl rfl rfl ?_
  refine r_cV (p := 8) rfl rfl rfl (Nat.le_of_ble_eq_true rfl) rfl (s_X4_ageOf  ?_)
  refine r_aload_n (p := 9) rfl rfl rfl ?_
  refine r_getI (p := 12) rfl rfl rfl rfl ?_
  refine r_icmp_lt (p := 15) rfl rfl (fun c1 => ?_) (fun c1 => ?_)
  · refine r_iconst (v := 0) (p := 20) rfl rfl rfl ?_
    refine r_ireturn rfl mok_0 ?_
    simp only [f_X0_isTenured, if_pos c1] at hQ; exact hQ
  · refine r_iconst (v := 1) (p := 16) rfl rfl rfl ?_
    refine r_goto rfl ?_
    refine r_ireturn rfl mok_1 ?_
    simp only [f_X0_isTenured, if_neg c1] at hQ; exact hQ
def f_X0_hasOldRoomFor (F : mF) (M : mM) (i : Int32) : Int32 := (if ((F 1 6) - (f_X4_wordsOld F M)) < (f_X4_sizeOf F M i) then 0 else 1)
set_option maxRecDepth 100000 in
theorem s_X0_hasOldRoomFor {d : Nat} {Y : mY} {F : mF} {M : mM} {L : mL} {i : Int32} {Q : Option Value → mW → Prop} (hQ : Q (some (.int (f_X0_hasOldRoomFor F M i))) ((mXY Y), F, M, L)) : Cw (d + 2) 111 [.ref 1, .int i] ((mXY Y), F, M, L) Q := by
  refine Cw_in rfl rfl ?_
  refine r_aload_n (p := 1) rfl rfl rfl ?_
  refine r_getI (p := 4) rfl rfl rfl rfl ?_
  refine r_aload_n (p := 5) rfl rfl rfl ?_
  refine r_getR (p := 8) rfl rfl rfl rfl rfl ?_
  refine r_cV (p := 11) rfl rfl rfl (Nat.le_of_ble_eq_true rfl) rfl (s_X4_wordsOld  ?_)
  refine r_isub (p := 12) rfl rfl ?_
  refine r_aload_n (p := 13) rfl rfl rfl ?_
  refine r_getR (p := 16) rfl rfl rfl rfl rfl ?_
  refine r_iload_n (p := 17) rfl rfl rfl ?_
  refine r_cV (p := 20) rfl rfl rfl (Nat.le_of_ble_eq_true rfl) rfl (s_X4_sizeOf  ?_)
  refine r_icmp_lt (p := 23) rfl rfl (fun c1 => ?_) (fun c1 => ?_)
  · refine r_iconst (v := 0) (p := 28) rfl rfl rfl ?_
    refine r_ireturn rfl mok_0 ?_
    simp only [f_X0_hasOldRoomFor, if_pos c1] at hQ; exact hQ
  · refine r_iconst (v := 1) (p := 24) rfl rfl rfl ?_
    refine r_goto rfl ?_
    refine r_ireturn rfl mok_1 ?_
    simp only [f_X0_hasOldRoomFor, if_neg c1] at hQ; exact hQ
def f_X0_hasRoot (F : mF) (M : mM) (i : Int32) : Int32 := (if i < 0 then 0 else (if 4 ≤ i then 0 else 1))
set_option maxRecDepth 100000 in
theorem s_X0_hasRoot {d : Nat} {Y : mY} {F : mF} {M : mM} {L : mL} {i : Int32} {Q : Option Value → mW → Prop} (hQ : Q (some (.int (f_X0_hasRoot F M i))) ((mXY Y), F, M, L)) : Cw (d + 1) 113 [.ref 1, .int i] ((mXY Y), F, M, L) Q := by
  refine Cw_in rfl rfl ?_
  refine r_iload_n (p := 1) rfl rfl rfl ?_
  refine r_if_lt (p := 4) rfl rfl (fun c1 => ?_) (fun c1 => ?_)
  · refine r_iconst (v := 0) (p := 14) rfl rfl rfl ?_
    refine r_ireturn rfl mok_0 ?_
    simp only [f_X0_hasRoot, if_pos c1] at hQ; exact hQ
  · refine r_iload_n (p := 5) rfl rfl rfl ?_
    refine r_iconst (v := 4) (p := 6) rfl rfl rfl ?_
    refine r_icmp_ge (p := 9) rfl rfl (fun c2 => ?_) (fun c2 => ?_)
    · refine r_iconst (v := 0) (p := 14) rfl rfl rfl ?_
      refine r_ireturn rfl mok_0 ?_
      simp only [f_X0_hasRoot, if_neg c1, if_pos c2] at hQ; exact hQ
    · refine r_iconst (v := 1) (p := 10) rfl rfl rfl ?_
      refine r_goto rfl ?_
      refine r_ireturn rfl mok_1 ?_
      simp only [f_X0_hasRoot, if_neg c1, if_neg c2] at hQ; exact hQ
theorem root_in {F : mF} {M : mM} {i : Int32} (h : ¬ f_X0_hasRoot F M i = 0) : vp_in i 4 := by
  unfold f_X0_hasRoot at h
  split at h
  · exact absurd rfl h
  · split at h
    · exact absurd rfl h
    · exact vpi (v := 4) (by decide) rfl ‹_› ‹_›
def f_X0_rootAt (F : mF) (M : mM) (i : Int32) : Int32 := (if (f_X0_hasRoot F M i) = 0 then (-1) else (M 8 i))
set_option maxRecDepth 100000 in
theorem s_X0_rootAt {d : Nat} {Y : mY} {F : mF} {M : mM} {L : mL} {i : Int32} {Q : Option Value → mW → Prop} (hQ : Q (some (.int (f_X0_rootAt F M i))) ((mXY Y), F, M, L)) : Cw (d + 2) 114 [.ref 1, .int i] ((mXY Y), F, M, L) Q := by
  refine Cw_in rfl rfl ?_
  refine r_aload_n (p := 1) rfl rfl rfl ?_
  refine r_iload_n (p := 2) rfl rfl rfl ?_
  refine r_cV (p := 5) rfl rfl rfl (Nat.le_of_ble_eq_true rfl) rfl (s_X0_hasRoot  ?_)
  refine r_if_eq (p := 8) rfl rfl (fun c1 => ?_) (fun c1 => ?_)
  · refine r_iconst (v := (-1)) (p := 18) rfl rfl rfl ?_
    refine r_ireturn rfl trivial ?_
    simp only [f_X0_rootAt, if_pos c1] at hQ; exact hQ
  · refine r_aload_n (p := 9) rfl rfl rfl ?_
    refine r_getR (p := 12) rfl rfl rfl rfl rfl ?_
    refine r_iload_n (p := 13) rfl rfl rfl ?_
    refine r_iald (p := 14) rfl rfl rfl (root_in c1) rfl ?_
    refine r_goto rfl ?_
    refine r_ireturn rfl trivial ?_
    simp only [f_X0_rootAt, if_neg c1] at hQ; exact hQ
def gM_X0_putRoot (F : mF) (M : mM) (i : Int32) (t : Int32) : mM := (if (f_X0_hasRoot F M i) = 0 then M else (uM M 8 i t))
set_option maxRecDepth 100000 in
theorem s_X0_putRoot {d : Nat} {Y : mY} {F : mF} {M : mM} {L : mL} {i : Int32} {t : Int32} {Q : Option Value → mW → Prop} (hQ : Q none ((mXY Y), F, gM_X0_putRoot F M i t, L)) : Cw (d + 2) 115 [.ref 1, .int i, .int t] ((mXY Y), F, M, L) Q := by
  refine Cw_in rfl rfl ?_
  refine r_aload_n (p := 1) rfl rfl rfl ?_
  refine r_iload_n (p := 2) rfl rfl rfl ?_
  refine r_cV (p := 5) rfl rfl rfl (Nat.le_of_ble_eq_true rfl) rfl (s_X0_hasRoot  ?_)
  refine r_if_eq (p := 8) rfl rfl (fun c1 => ?_) (fun c1 => ?_)
  · refine r_return rfl ?_
    simp only [gM_X0_putRoot, if_pos c1] at hQ; exact hQ
  · refine r_aload_n (p := 9) rfl rfl rfl ?_
    refine r_getR (p := 12) rfl rfl rfl rfl rfl ?_
    refine r_iload_n (p := 13) rfl rfl rfl ?_
    refine r_iload_n (p := 14) rfl rfl rfl ?_
    refine r_iast (p := 15) rfl rfl rfl (root_in c1) (by decide) rfl ?_
    refine r_return rfl ?_
    simp only [gM_X0_putRoot, if_neg c1] at hQ; exact hQ
def gF_X0_putField (F : mF) (M : mM) (i : Int32) (f : Int32) (t : Int32) : mF := (if (f_X4_inOldGeneration F (gM_X4_setField F M i f t) i) = 0 then F else (if (f_X4_inNursery F (gM_X4_setField F M i f t) t) = 0 then F else (gF_X1_add F (gM_X4_setField F M i f t) 12 i)))
def gM_X0_putField (F : mF) (M : mM) (i : Int32) (f : Int32) (t : Int32) : mM := (if (f_X4_inOldGeneration F (gM_X4_setField F M i f t) i) = 0 then (gM_X4_setField F M i f t) else (if (f_X4_inNursery F (gM_X4_setField F M i f t) t) = 0 then (gM_X4_setField F M i f t) else (gM_X1_add F (gM_X4_setField F M i f t) 12 i)))
set_option maxRecDepth 100000 in
theorem s_X0_putField {d : Nat} {Y : mY} {F : mF} {M : mM} {L : mL} {i : Int32} {f : Int32} {t : Int32} {Q : Option Value → mW → Prop} (h5 : ∀ i, inR i → M 5 i ≤ 4) (h12 : 0 ≤ F 12 2) (hQ : Q none ((mXY Y), gF_X0_putField F M i f t, gM_X0_putField F M i f t, L)) : Cw (d + 4) 116 [.ref 1, .int i, .int f, .int t] ((mXY Y), F, M, L) Q := by
  refine Cw_in rfl rfl ?_
  refine r_aload_n (p := 1) rfl rfl rfl ?_
  refine r_getR (p := 4) rfl rfl rfl rfl rfl ?_
  refine r_iload_n (p := 5) rfl rfl rfl ?_
  refine r_iload_n (p := 6) rfl rfl rfl ?_
  refine r_iload_n (p := 7) rfl rfl rfl ?_
  refine r_cV (p := 10) rfl rfl rfl (Nat.le_of_ble_eq_true rfl) rfl (s_X4_setField h5 ?_)
  refine r_aload_n (p := 11) rfl rfl rfl ?_
  refine r_getR (p := 14) rfl rfl rfl rfl rfl ?_
  refine r_iload_n (p := 15) rfl rfl rfl ?_
  refine r_cV (p := 18) rfl rfl rfl (Nat.le_of_ble_eq_true rfl) rfl (s_X4_inOldGeneration  ?_)
  refine r_if_eq (p := 21) rfl rfl (fun c1 => ?_) (fun c1 => ?_)
  · refine r_return rfl ?_
    simp only [gF_X0_putField, gM_X0_putField, if_pos c1] at hQ; exact hQ
  · refine r_aload_n (p := 22) rfl rfl rfl ?_
    refine r_getR (p := 25) rfl rfl rfl rfl rfl ?_
    refine r_iload_n (p := 26) rfl rfl rfl ?_
    refine r_cV (p := 29) rfl rfl rfl (Nat.le_of_ble_eq_true rfl) rfl (s_X4_inNursery  ?_)
    refine r_if_eq (p := 32) rfl rfl (fun c2 => ?_) (fun c2 => ?_)
    · refine r_return rfl ?_
      simp only [gF_X0_putField, gM_X0_putField, if_neg c1, if_pos c2] at hQ; exact hQ
    · refine r_aload_n (p := 33) rfl rfl rfl ?_
      refine r_getR (p := 36) rfl rfl rfl rfl rfl ?_
      refine r_iload_n (p := 37) rfl rfl rfl ?_
      refine r_cV (p := 40) rfl rfl rfl (Nat.le_of_ble_eq_true rfl) rfl (s_X1_add (mIL_12 Y) h12 ?_)
      refine r_return rfl ?_
      simp only [gF_X0_putField, gM_X0_putField, if_neg c1, if_neg c2] at hQ; exact hQ
def gF_X0_reach (F : mF) (M : mM) (i : Int32) : mF := (if (f_X4_isLive F M i) = 0 then F else (gF_X1_add F M 15 i))
def gM_X0_reach (F : mF) (M : mM) (i : Int32) : mM := (if (f_X4_isLive F M i) = 0 then M else (gM_X1_add F M 15 i))
set_option maxRecDepth 100000 in
theorem s_X0_reach {d : Nat} {Y : mY} {F : mF} {M : mM} {L : mL} {i : Int32} {Q : Option Value → mW → Prop} (h15 : 0 ≤ F 15 2) (hQ : Q none ((mXY Y), gF_X0_reach F M i, gM_X0_reach F M i, L)) : Cw (d + 2) 118 [.ref 1, .int i] ((mXY Y), F, M, L) Q := by
  refine Cw_in rfl rfl ?_
  refine r_aload_n (p := 1) rfl rfl rfl ?_
  refine r_getR (p := 4) rfl rfl rfl rfl rfl ?_
  refine r_iload_n (p := 5) rfl rfl rfl ?_
  refine r_cV (p := 8) rfl rfl rfl (Nat.le_of_ble_eq_true rfl) rfl (s_X4_isLive  ?_)
  refine r_if_eq (p := 11) rfl rfl (fun c1 => ?_) (fun c1 => ?_)
  · refine r_return rfl ?_
    simp only [gF_X0_reach, gM_X0_reach, if_pos c1] at hQ; exact hQ
  · refine r_aload_n (p := 12) rfl rfl rfl ?_
    refine r_getR (p := 15) rfl rfl rfl rfl rfl ?_
    refine r_iload_n (p := 16) rfl rfl rfl ?_
    refine r_cV (p := 19) rfl rfl rfl (Nat.le_of_ble_eq_true rfl) rfl (s_X1_add (mIL_15 Y) h15 ?_)
    refine r_return rfl ?_
    simp only [gF_X0_reach, gM_X0_reach, if_neg c1] at hQ; exact hQ
def f_X2_currentPhase (F : mF) (M : mM) : Int32 := (F 18 4)
set_option maxRecDepth 100000 in
theorem s_X2_currentPhase {d : Nat} {Y : mY} {F : mF} {M : mM} {L : mL} {Q : Option Value → mW → Prop} (hQ : Q (some (.int (f_X2_currentPhase F M))) ((mXY Y), F, M, L)) : Cw (d + 1) 121 [.ref 18] ((mXY Y), F, M, L) Q := by
  refine Cw_in rfl rfl ?_
  refine r_aload_n (p := 1) rfl rfl rfl ?_
  refine r_getI (p := 4) rfl rfl rfl rfl ?_
  refine r_ireturn rfl trivial ?_
  simp only [f_X2_currentPhase] at hQ; exact hQ
def f_X2_greyObjects (F : mF) (M : mM) : Int32 := (f_X1_size F M 19)
set_option maxRecDepth 100000 in
theorem s_X2_greyObjects {d : Nat} {Y : mY} {F : mF} {M : mM} {L : mL} {Q : Option Value → mW → Prop} (hQ : Q (some (.int (f_X2_greyObjects F M))) ((mXY Y), F, M, L)) : Cw (d + 2) 122 [.ref 18] ((mXY Y), F, M, L) Q := by
  refine Cw_in rfl rfl ?_
  refine r_aload_n (p := 1) rfl rfl rfl ?_
  refine r_getR (p := 4) rfl rfl rfl rfl rfl ?_
  refine r_cV (p := 7) rfl rfl rfl (Nat.le_of_ble_eq_true rfl) rfl (s_X1_size (mIL_19 Y) ?_)
  refine r_ireturn rfl trivial ?_
  simp only [f_X2_greyObjects] at hQ; exact hQ
def f_X2_completedCycles (F : mF) (M : mM) : Int32 := (F 18 5)
set_option maxRecDepth 100000 in
theorem s_X2_completedCycles {d : Nat} {Y : mY} {F : mF} {M : mM} {L : mL} {Q : Option Value → mW → Prop} (hQ : Q (some (.int (f_X2_completedCycles F M))) ((mXY Y), F, M, L)) : Cw (d + 1) 123 [.ref 18] ((mXY Y), F, M, L) Q := by
  refine Cw_in rfl rfl ?_
  refine r_aload_n (p := 1) rfl rfl rfl ?_
  refine r_getI (p := 4) rfl rfl rfl rfl ?_
  refine r_ireturn rfl trivial ?_
  simp only [f_X2_completedCycles] at hQ; exact hQ
def f_X2_hasColour (F : mF) (M : mM) (i : Int32) : Int32 := (if (F 18 4) = 0 then 0 else (if (f_X4_inOldGeneration F M i) = 0 then 0 else 1))
set_option maxRecDepth 100000 in
theorem s_X2_hasColour {d : Nat} {Y : mY} {F : mF} {M : mM} {L : mL} {i : Int32} {Q : Option Value → mW → Prop} (hQ : Q (some (.int (f_X2_hasColour F M i))) ((mXY Y), F, M, L)) : Cw (d + 2) 124 [.ref 18, .int i] ((mXY Y), F, M, L) Q := by
  refine Cw_in rfl rfl ?_
  refine r_aload_n (p := 1) rfl rfl rfl ?_
  refine r_getI (p := 4) rfl rfl rfl rfl ?_
  refine r_if_eq (p := 7) rfl rfl (fun c1 => ?_) (fun c1 => ?_)
  · refine r_iconst (v := 0) (p := 23) rfl rfl rfl ?_
    refine r_ireturn rfl mok_0 ?_
    simp only [f_X2_hasColour, if_pos c1] at hQ; exact hQ
  · refine r_aload_n (p := 8) rfl rfl rfl ?_
    refine r_getR (p := 11) rfl rfl rfl rfl rfl ?_
    refine r_iload_n (p := 12) rfl rfl rfl ?_
    refine r_cV (p := 15) rfl rfl rfl (Nat.le_of_ble_eq_true rfl) rfl (s_X4_inOldGeneration  ?_)
    refine r_if_eq (p := 18) rfl rfl (fun c2 => ?_) (fun c2 => ?_)
    · refine r_iconst (v := 0) (p := 23) rfl rfl rfl ?_
      refine r_ireturn rfl mok_0 ?_
      simp only [f_X2_hasColour, if_neg c1, if_pos c2] at hQ; exact hQ
    · refine r_iconst (v := 1) (p := 19) rfl rfl rfl ?_
      refine r_goto rfl ?_
      refine r_ireturn rfl mok_1 ?_
      simp only [f_X2_hasColour, if_neg c1, if_neg c2] at hQ; exact hQ
def f_X2_isDoomed (F : mF) (M : mM) (i : Int32) : Int32 := (if (F 18 4) = 2 then (if (f_X4_isWhiteOld F M i) = 0 then 0 else 1) else 0)
set_option maxRecDepth 100000 in
theorem s_X2_isDoomed {d : Nat} {Y : mY} {F : mF} {M : mM} {L : mL} {i : Int32} {Q : Option Value → mW → Prop} (hQ : Q (some (.int (f_X2_isDoomed F M i))) ((mXY Y), F, M, L)) : Cw (d + 2) 125 [.ref 18, .int i] ((mXY Y), F, M, L) Q := by
  refine Cw_in rfl rfl ?_
  refine r_aload_n (p := 1) rfl rfl rfl ?_
  refine r_getI (p := 4) rfl rfl rfl rfl ?_
  refine r_iconst (v := 2) (p := 5) rfl rfl rfl ?_
  refine r_icmp_ne (p := 8) rfl rfl (fun c1 => ?_) (fun c1 => ?_)
  · refine r_iconst (v := 0) (p := 24) rfl rfl rfl ?_
    refine r_ireturn rfl mok_0 ?_
    simp only [f_X2_isDoomed, if_neg c1] at hQ; exact hQ
  · refine r_aload_n (p := 9) rfl rfl rfl ?_
    refine r_getR (p := 12) rfl rfl rfl rfl rfl ?_
    refine r_iload_n (p := 13) rfl rfl rfl ?_
    refine r_cV (p := 16) rfl rfl rfl (Nat.le_of_ble_eq_true rfl) rfl (s_X4_isWhiteOld  ?_)
    refine r_if_eq (p := 19) rfl rfl (fun c2 => ?_) (fun c2 => ?_)
    · refine r_iconst (v := 0) (p := 24) rfl rfl rfl ?_
      refine r_ireturn rfl mok_0 ?_
      simp only [f_X2_isDoomed, if_pos c1, if_pos c2] at hQ; exact hQ
    · refine r_iconst (v := 1) (p := 20) rfl rfl rfl ?_
      refine r_goto rfl ?_
      refine r_ireturn rfl mok_1 ?_
      simp only [f_X2_isDoomed, if_pos c1, if_neg c2] at hQ; exact hQ
def gF_X2_shade (F : mF) (M : mM) (i : Int32) : mF := (if (f_X4_isWhiteOld F M i) = 0 then F else (gF_X1_add F (gM_X4_paint F M i 1) 19 i))
def gM_X2_shade (F : mF) (M : mM) (i : Int32) : mM := (if (f_X4_isWhiteOld F M i) = 0 then M else (gM_X1_add F (gM_X4_paint F M i 1) 19 i))
set_option maxRecDepth 100000 in
theorem s_X2_shade {d : Nat} {Y : mY} {F : mF} {M : mM} {L : mL} {i : Int32} {Q : Option Value → mW → Prop} (h19 : 0 ≤ F 19 2) (hQ : Q none ((mXY Y), gF_X2_shade F M i, gM_X2_shade F M i, L)) : Cw (d + 2) 135 [.ref 18, .int i] ((mXY Y), F, M, L) Q := by
  refine Cw_in rfl rfl ?_
  refine r_aload_n (p := 1) rfl rfl rfl ?_
  refine r_getR (p := 4) rfl rfl rfl rfl rfl ?_
  refine r_iload_n (p := 5) rfl rfl rfl ?_
  refine r_cV (p := 8) rfl rfl rfl (Nat.le_of_ble_eq_true rfl) rfl (s_X4_isWhiteOld  ?_)
  refine r_if_eq (p := 11) rfl rfl (fun c1 => ?_) (fun c1 => ?_)
  · refine r_return rfl ?_
    simp only [gF_X2_shade, gM_X2_shade, if_pos c1] at hQ; exact hQ
  · refine r_aload_n (p := 12) rfl rfl rfl ?_
    refine r_getR (p := 15) rfl rfl rfl rfl rfl ?_
    refine r_iload_n (p := 16) rfl rfl rfl ?_
    refine r_iconst (v := 1) (p := 17) rfl rfl rfl ?_
    refine r_cV (p := 20) rfl rfl rfl (Nat.le_of_ble_eq_true rfl) rfl (s_X4_paint  ?_)
    refine r_aload_n (p := 21) rfl rfl rfl ?_
    refine r_getR (p := 24) rfl rfl rfl rfl rfl ?_
    refine r_iload_n (p := 25) rfl rfl rfl ?_
    refine r_cV (p := 28) rfl rfl rfl (Nat.le_of_ble_eq_true rfl) rfl (s_X1_add (mIL_19 Y) h19 ?_)
    refine r_return rfl ?_
    simp only [gF_X2_shade, gM_X2_shade, if_neg c1] at hQ; exact hQ
def gF_X2_noteStore (F : mF) (M : mM) (i : Int32) : mF := (if (F 18 4) = 1 then (gF_X2_shade F M i) else F)
def gM_X2_noteStore (F : mF) (M : mM) (i : Int32) : mM := (if (F 18 4) = 1 then (gM_X2_shade F M i) else M)
set_option maxRecDepth 100000 in
theorem s_X2_noteStore {d : Nat} {Y : mY} {F : mF} {M : mM} {L : mL} {i : Int32} {Q : Option Value → mW → Prop} (h19 : 0 ≤ F 19 2) (hQ : Q none ((mXY Y), gF_X2_noteStore F M i, gM_X2_noteStore F M i, L)) : Cw (d + 3) 126 [.ref 18, .int i] ((mXY Y), F, M, L) Q := by
  refine Cw_in rfl rfl ?_
  refine r_aload_n (p := 1) rfl rfl rfl ?_
  refine r_getI (p := 4) rfl rfl rfl rfl ?_
  refine r_iconst (v := 1) (p := 5) rfl rfl rfl ?_
  refine r_icmp_ne (p := 8) rfl rfl (fun c1 => ?_) (fun c1 => ?_)
  · refine r_return rfl ?_
    simp only [gF_X2_noteStore, gM_X2_noteStore, if_neg c1] at hQ; exact hQ
  · refine r_aload_n (p := 9) rfl rfl rfl ?_
    refine r_iload_n (p := 10) rfl rfl rfl ?_
    refine r_cV (p := 13) rfl rfl rfl (Nat.le_of_ble_eq_true rfl) rfl (s_X2_shade h19 ?_)
    refine r_return rfl ?_
    simp only [gF_X2_noteStore, gM_X2_noteStore, if_pos c1] at hQ; exact hQ
def gF_X2_notePromotion (F : mF) (M : mM) (i : Int32) : mF := (if (F 18 4) = 1 then (gF_X1_add F (gM_X4_paint F M i 1) 19 i) else (if (F 18 4) = 2 then F else F))
def gM_X2_notePromotion (F : mF) (M : mM) (i : Int32) : mM := (if (F 18 4) = 1 then (gM_X1_add F (gM_X4_paint F M i 1) 19 i) else (if (F 18 4) = 2 then (gM_X4_paint F M i 2) else M))
set_option maxRecDepth 100000 in
theorem s_X2_notePromotion {d : Nat} {Y : mY} {F : mF} {M : mM} {L : mL} {i : Int32} {Q : Option Value → mW → Prop} (h19 : 0 ≤ F 19 2) (hQ : Q none ((mXY Y), gF_X2_notePromotion F M i, gM_X2_notePromotion F M i, L)) : Cw (d + 2) 127 [.ref 18, .int i] ((mXY Y), F, M, L) Q := by
  refine Cw_in rfl rfl ?_
  refine r_aload_n (p := 1) rfl rfl rfl ?_
  refine r_getI (p := 4) rfl rfl rfl rfl ?_
  refine r_iconst (v := 1) (p := 5) rfl rfl rfl ?_
  refine r_icmp_ne (p := 8) rfl rfl (fun c1 => ?_) (fun c1 => ?_)
  · refine r_aload_n (p := 29) rfl rfl rfl ?_
    refine r_getI (p := 32) rfl rfl rfl rfl ?_
    refine r_iconst (v := 2) (p := 33) rfl rfl rfl ?_
    refine r_icmp_ne (p := 36) rfl rfl (fun c2 => ?_) (fun c2 => ?_)
    · refine r_return rfl ?_
      simp only [gF_X2_notePromotion, gM_X2_notePromotion, if_neg c1, if_neg c2] at hQ; exact hQ
    · refine r_aload_n (p := 37) rfl rfl rfl ?_
      refine r_getR (p := 40) rfl rfl rfl rfl rfl ?_
      refine r_iload_n (p := 41) rfl rfl rfl ?_
      refine r_iconst (v := 2) (p := 42) rfl rfl rfl ?_
      refine r_cV (p := 45) rfl rfl rfl (Nat.le_of_ble_eq_true rfl) rfl (s_X4_paint  ?_)
      refine r_return rfl ?_
      simp only [gF_X2_notePromotion, gM_X2_notePromotion, if_neg c1, if_pos c2] at hQ; exact hQ
  · refine r_aload_n (p := 9) rfl rfl rfl ?_
    refine r_getR (p := 12) rfl rfl rfl rfl rfl ?_
    refine r_iload_n (p := 13) rfl rfl rfl ?_
    refine r_iconst (v := 1) (p := 14) rfl rfl rfl ?_
    refine r_cV (p := 17) rfl rfl rfl (Nat.le_of_ble_eq_true rfl) rfl (s_X4_paint  ?_)
    refine r_aload_n (p := 18) rfl rfl rfl ?_
    refine r_getR (p := 21) rfl rfl rfl rfl rfl ?_
    refine r_iload_n (p := 22) rfl rfl rfl ?_
    refine r_cV (p := 25) rfl rfl rfl (Nat.le_of_ble_eq_true rfl) rfl (s_X1_add (mIL_19 Y) h19 ?_)
    refine r_goto rfl ?_
    refine r_return rfl ?_
    simp only [gF_X2_notePromotion, gM_X2_notePromotion, if_pos c1] at hQ; exact hQ
def f_X3_failedPromotions (F : mF) (M : mM) : Int32 := (F 25 4)
set_option maxRecDepth 100000 in
theorem s_X3_failedPromotions {d : Nat} {Y : mY} {F : mF} {M : mM} {L : mL} {Q : Option Value → mW → Prop} (hQ : Q (some (.int (f_X3_failedPromotions F M))) ((mXY Y), F, M, L)) : Cw (d + 1) 138 [.ref 25] ((mXY Y), F, M, L) Q := by
  refine Cw_in rfl rfl ?_
  refine r_aload_n (p := 1) rfl rfl rfl ?_
  refine r_getI (p := 4) rfl rfl rfl rfl ?_
  refine r_ireturn rfl trivial ?_
  simp only [f_X3_failedPromotions] at hQ; exact hQ
def f_X3_completedRuns (F : mF) (M : mM) : Int32 := (F 25 5)
set_option maxRecDepth 100000 in
theorem s_X3_completedRuns {d : Nat} {Y : mY} {F : mF} {M : mM} {L : mL} {Q : Option Value → mW → Prop} (hQ : Q (some (.int (f_X3_completedRuns F M))) ((mXY Y), F, M, L)) : Cw (d + 1) 139 [.ref 25] ((mXY Y), F, M, L) Q := by
  refine Cw_in rfl rfl ?_
  refine r_aload_n (p := 1) rfl rfl rfl ?_
  refine r_getI (p := 4) rfl rfl rfl rfl ?_
  refine r_ireturn rfl trivial ?_
  simp only [f_X3_completedRuns] at hQ; exact hQ
def gF_X3_restart (F : mF) (M : mM) : mF := (uF (uF F 25 4 0) 25 5 0)
set_option maxRecDepth 100000 in
theorem s_X3_restart {d : Nat} {Y : mY} {F : mF} {M : mM} {L : mL} {Q : Option Value → mW → Prop} (hQ : Q none ((mXY Y), gF_X3_restart F M, M, L)) : Cw (d + 1) 137 [.ref 25] ((mXY Y), F, M, L) Q := by
  refine Cw_in rfl rfl ?_
  refine r_aload_n (p := 1) rfl rfl rfl ?_
  refine r_iconst (v := 0) (p := 2) rfl rfl rfl ?_
  refine r_putI (p := 5) rfl rfl rfl rfl ?_
  refine r_aload_n (p := 6) rfl rfl rfl ?_
  refine r_iconst (v := 0) (p := 7) rfl rfl rfl ?_
  refine r_putI (p := 10) rfl rfl rfl rfl ?_
  refine r_return rfl ?_
  simp only [gF_X3_restart] at hQ; exact hQ
def gF_X3_visit (F : mF) (M : mM) (i : Int32) : mF := (if (f_X4_inNursery F M i) = 0 then F else (gF_X1_add F M 26 i))
def gM_X3_visit (F : mF) (M : mM) (i : Int32) : mM := (if (f_X4_inNursery F M i) = 0 then M else (gM_X1_add F M 26 i))
set_option maxRecDepth 100000 in
theorem s_X3_visit {d : Nat} {Y : mY} {F : mF} {M : mM} {L : mL} {i : Int32} {Q : Option Value → mW → Prop} (h26 : 0 ≤ F 26 2) (hQ : Q none ((mXY Y), gF_X3_visit F M i, gM_X3_visit F M i, L)) : Cw (d + 2) 143 [.ref 25, .int i] ((mXY Y), F, M, L) Q := by
  refine Cw_in rfl rfl ?_
  refine r_aload_n (p := 1) rfl rfl rfl ?_
  refine r_getR (p := 4) rfl rfl rfl rfl rfl ?_
  refine r_iload_n (p := 5) rfl rfl rfl ?_
  refine r_cV (p := 8) rfl rfl rfl (Nat.le_of_ble_eq_true rfl) rfl (s_X4_inNursery  ?_)
  refine r_if_eq (p := 11) rfl rfl (fun c1 => ?_) (fun c1 => ?_)
  · refine r_return rfl ?_
    simp only [gF_X3_visit, gM_X3_visit, if_pos c1] at hQ; exact hQ
  · refine r_aload_n (p := 12) rfl rfl rfl ?_
    refine r_getR (p := 15) rfl rfl rfl rfl rfl ?_
    refine r_iload_n (p := 16) rfl rfl rfl ?_
    refine r_cV (p := 19) rfl rfl rfl (Nat.le_of_ble_eq_true rfl) rfl (s_X1_add (mIL_26 Y) h26 ?_)
    refine r_return rfl ?_
    simp only [gF_X3_visit, gM_X3_visit, if_neg c1] at hQ; exact hQ
