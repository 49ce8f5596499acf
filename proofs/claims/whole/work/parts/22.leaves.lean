def f_X1_size (F : mF) (M : mM) (h : Nat) : Int32 := (F h 2)
set_option maxRecDepth 100000 in
theorem s_X1_size {d : Nat} {X : mX} {F : mF} {M : mM} {L : mL} {h : Nat} {Q : Option Value → mW → Prop} (hI : mIL X h) (hQ : Q (some (.int (f_X1_size F M h))) (X, F, M, L)) : Cw (d + 1) 75 [.ref h] (X, F, M, L) Q := by
  obtain ⟨b0, b1, b2, k0, r0, r1, k1, k2⟩ := hI
  refine Cw_in rfl rfl ?_
  refine r_aload_n (p := 1) rfl rfl rfl ?_
  refine r_getI (p := 4) rfl b0 k0 rfl ?_
  refine r_ireturn rfl trivial ?_
  simp only [f_X1_size] at hQ; exact hQ
def f_X1_at (F : mF) (M : mM) (h : Nat) (i : Int32) : Int32 := (if i < 0 then (-5) else (if (F h 2) ≤ i then (-5) else (M (h + 1) i)))
set_option maxRecDepth 100000 in
theorem s_X1_at {d : Nat} {X : mX} {F : mF} {M : mM} {L : mL} {h : Nat} {i : Int32} {Q : Option Value → mW → Prop} (hI : mIL X h) (hs : F h 2 ≤ 100) (hQ : Q (some (.int (f_X1_at F M h i))) (X, F, M, L)) : Cw (d + 1) 76 [.ref h, .int i] (X, F, M, L) Q := by
  obtain ⟨b0, b1, b2, k0, r0, r1, k1, k2⟩ := hI
  refine Cw_in rfl rfl ?_
  refine r_iload_n (p := 1) rfl rfl rfl ?_
  refine r_if_lt (p := 4) rfl rfl (fun c1 => ?_) (fun c1 => ?_)
  · refine r_bipush (v := (-5)) (p := 23) rfl rfl rfl ?_
    refine r_ireturn rfl trivial ?_
    simp only [f_X1_at, if_pos c1] at hQ; exact hQ
  · refine r_iload_n (p := 5) rfl rfl rfl ?_
    refine r_aload_n (p := 6) rfl rfl rfl ?_
    refine r_getI (p := 9) rfl b0 k0 rfl ?_
    refine r_icmp_ge (p := 12) rfl rfl (fun c2 => ?_) (fun c2 => ?_)
    · refine r_bipush (v := (-5)) (p := 23) rfl rfl rfl ?_
      refine r_ireturn rfl trivial ?_
      simp only [f_X1_at, if_neg c1, if_pos c2] at hQ; exact hQ
    · refine r_aload_n (p := 13) rfl rfl rfl ?_
      refine r_getR (p := 16) rfl b0 k0 r0 rfl ?_
      refine r_iload_n (p := 17) rfl rfl rfl ?_
      refine r_iald (p := 18) rfl b1 k1 (vpi (v := 100) (by decide) rfl c1 (fun z => c2 (Int32.le_trans hs z))) rfl ?_
      refine r_goto rfl ?_
      refine r_ireturn rfl trivial ?_
      simp only [f_X1_at, if_neg c1, if_neg c2] at hQ; exact hQ
def f_X1_has (F : mF) (M : mM) (h : Nat) (i : Int32) : Int32 := (if i < 0 then 0 else (if 100 ≤ i then 0 else (if (M (h + 2) i) = 0 then 0 else 1)))
set_option maxRecDepth 100000 in
theorem s_X1_has {d : Nat} {X : mX} {F : mF} {M : mM} {L : mL} {h : Nat} {i : Int32} {Q : Option Value → mW → Prop} (hI : mIL X h) (hQ : Q (some (.int (f_X1_has F M h i))) (X, F, M, L)) : Cw (d + 1) 77 [.ref h, .int i] (X, F, M, L) Q := by
  obtain ⟨b0, b1, b2, k0, r0, r1, k1, k2⟩ := hI
  refine Cw_in rfl rfl ?_
  refine r_iload_n (p := 1) rfl rfl rfl ?_
  refine r_if_lt (p := 4) rfl rfl (fun c1 => ?_) (fun c1 => ?_)
  · refine r_iconst (v := 0) (p := 24) rfl rfl rfl ?_
    refine r_ireturn rfl mok_0 ?_
    simp only [f_X1_has, if_pos c1] at hQ; exact hQ
  · refine r_iload_n (p := 5) rfl rfl rfl ?_
    refine r_bipush (v := 100) (p := 7) rfl rfl rfl ?_
    refine r_icmp_ge (p := 10) rfl rfl (fun c2 => ?_) (fun c2 => ?_)
    · refine r_iconst (v := 0) (p := 24) rfl rfl rfl ?_
      refine r_ireturn rfl mok_0 ?_
      simp only [f_X1_has, if_neg c1, if_pos c2] at hQ; exact hQ
    · refine r_aload_n (p := 11) rfl rfl rfl ?_
      refine r_getR (p := 14) rfl b0 k0 r1 rfl ?_
      refine r_iload_n (p := 15) rfl rfl rfl ?_
      refine r_zald (p := 16) rfl b2 k2 (vpi (v := 100) (by decide) rfl (by assumption) (by assumption)) rfl ?_
      refine r_if_eq (p := 19) rfl rfl (fun c3 => ?_) (fun c3 => ?_)
      · refine r_iconst (v := 0) (p := 24) rfl rfl rfl ?_
        refine r_ireturn rfl mok_0 ?_
        simp only [f_X1_has, if_neg c1, if_neg c2, if_pos c3] at hQ; exact hQ
      · refine r_iconst (v := 1) (p := 20) rfl rfl rfl ?_
        refine r_goto rfl ?_
        refine r_ireturn rfl mok_1 ?_
        simp only [f_X1_has, if_neg c1, if_neg c2, if_neg c3] at hQ; exact hQ
def gF_X1_add (F : mF) (M : mM) (h : Nat) (i : Int32) : mF := (if i < 0 then F else (if 100 ≤ i then F else (if (M (h + 2) i) = 0 then (if 100 ≤ (F h 2) then F else (uF F h 2 ((F h 2) + 1))) else F)))
def gM_X1_add (F : mF) (M : mM) (h : Nat) (i : Int32) : mM := (if i < 0 then M else (if 100 ≤ i then M else (if (M (h + 2) i) = 0 then (if 100 ≤ (F h 2) then M else (uM (uM M (h + 2) i 1) (h + 1) (F h 2) i)) else M)))
set_option maxRecDepth 100000 in
theorem s_X1_add {d : Nat} {X : mX} {F : mF} {M : mM} {L : mL} {h : Nat} {i : Int32} {Q : Option Value → mW → Prop} (hI : mIL X h) (hs : 0 ≤ F h 2) (hQ : Q none (X, gF_X1_add F M h i, gM_X1_add F M h i, L)) : Cw (d + 1) 78 [.ref h, .int i] (X, F, M, L) Q := by
  obtain ⟨b0, b1, b2, k0, r0, r1, k1, k2⟩ := hI
  refine Cw_in rfl rfl ?_
  refine r_iload_n (p := 1) rfl rfl rfl ?_
  refine r_if_lt (p := 4) rfl rfl (fun c1 => ?_) (fun c1 => ?_)
  · refine r_return rfl ?_
    simp only [gF_X1_add, gM_X1_add, if_pos c1] at hQ; exact hQ
  · refine r_iload_n (p := 5) rfl rfl rfl ?_
    refine r_bipush (v := 100) (p := 7) rfl rfl rfl ?_
    refine r_icmp_ge (p := 10) rfl rfl (fun c2 => ?_) (fun c2 => ?_)
    · refine r_return rfl ?_
      simp only [gF_X1_add, gM_X1_add, if_neg c1, if_pos c2] at hQ; exact hQ
    · refine r_aload_n (p := 11) rfl rfl rfl ?_
      refine r_getR (p := 14) rfl b0 k0 r1 rfl ?_
      refine r_iload_n (p := 15) rfl rfl rfl ?_
      refine r_zald (p := 16) rfl b2 k2 (vpi (v := 100) (by decide) rfl (by assumption) (by assumption)) rfl ?_
      refine r_if_ne (p := 19) rfl rfl (fun c3 => ?_) (fun c3 => ?_)
      · refine r_return rfl ?_
        simp only [gF_X1_add, gM_X1_add, if_neg c1, if_neg c2, if_neg c3] at hQ; exact hQ
      · refine r_aload_n (p := 20) rfl rfl rfl ?_
        refine r_getI (p := 23) rfl b0 k0 rfl ?_
        refine r_bipush (v := 100) (p := 25) rfl rfl rfl ?_
        refine r_icmp_ge (p := 28) rfl rfl (fun c4 => ?_) (fun c4 => ?_)
        · refine r_return rfl ?_
          simp only [gF_X1_add, gM_X1_add, if_neg c1, if_neg c2, if_pos c3, if_pos c4] at hQ; exact hQ
        · refine r_aload_n (p := 29) rfl rfl rfl ?_
          refine r_getR (p := 32) rfl b0 k0 r1 rfl ?_
          refine r_iload_n (p := 33) rfl rfl rfl ?_
          refine r_iconst (v := 1) (p := 34) rfl rfl rfl ?_
          refine r_zast (v := 1) (p := 35) rfl b2 k2 (vpi (v := 100) (by decide) rfl (by assumption) (by assumption)) (by decide) (by decide) rfl ?_
          refine r_aload_n (p := 36) rfl rfl rfl ?_
          refine r_getR (p := 39) rfl b0 k0 r0 rfl ?_
          refine r_aload_n (p := 40) rfl rfl rfl ?_
          refine r_getI (p := 43) rfl b0 k0 rfl ?_
          refine r_iload_n (p := 44) rfl rfl rfl ?_
          refine r_iast (p := 45) rfl b1 k1 (vpi (v := 100) (by decide) rfl (Int32.not_lt.mpr hs) c4) (by decide) rfl ?_
          refine r_aload_n (p := 46) rfl rfl rfl ?_
          refine r_dup (p := 47) rfl rfl rfl ?_
          refine r_getI (p := 50) rfl b0 k0 rfl ?_
          refine r_iconst (v := 1) (p := 51) rfl rfl rfl ?_
          refine r_iadd (p := 52) rfl rfl ?_
          refine r_putI (p := 55) rfl b0 k0 rfl ?_
          refine r_return rfl ?_
          simp only [gF_X1_add, gM_X1_add, if_neg c1, if_neg c2, if_pos c3, if_neg c4] at hQ; exact hQ
def f_X4_allocatedObjects (F : mF) (M : mM) : Int32 := (F 2 5)
set_option maxRecDepth 100000 in
theorem s_X4_allocatedObjects {d : Nat} {Y : mY} {F : mF} {M : mM} {L : mL} {Q : Option Value → mW → Prop} (hQ : Q (some (.int (f_X4_allocatedObjects F M))) ((mXY Y), F, M, L)) : Cw (d + 1) 84 [.ref 2] ((mXY Y), F, M, L) Q := by
  refine Cw_in rfl rfl ?_
  refine r_aload_n (p := 1) rfl rfl rfl ?_
  refine r_getI (p := 4) rfl rfl rfl rfl ?_
  refine r_ireturn rfl trivial ?_
  simp only [f_X4_allocatedObjects] at hQ; exact hQ
def f_X4_wordsYoung (F : mF) (M : mM) : Int32 := (F 2 6)
set_option maxRecDepth 100000 in
theorem s_X4_wordsYoung {d : Nat} {Y : mY} {F : mF} {M : mM} {L : mL} {Q : Option Value → mW → Prop} (hQ : Q (some (.int (f_X4_wordsYoung F M))) ((mXY Y), F, M, L)) : Cw (d + 1) 85 [.ref 2] ((mXY Y), F, M, L) Q := by
  refine Cw_in rfl rfl ?_
  refine r_aload_n (p := 1) rfl rfl rfl ?_
  refine r_getI (p := 4) rfl rfl rfl rfl ?_
  refine r_ireturn rfl trivial ?_
  simp only [f_X4_wordsYoung] at hQ; exact hQ
def f_X4_wordsOld (F : mF) (M : mM) : Int32 := (F 2 7)
set_option maxRecDepth 100000 in
theorem s_X4_wordsOld {d : Nat} {Y : mY} {F : mF} {M : mM} {L : mL} {Q : Option Value → mW → Prop} (hQ : Q (some (.int (f_X4_wordsOld F M))) ((mXY Y), F, M, L)) : Cw (d + 1) 86 [.ref 2] ((mXY Y), F, M, L) Q := by
  refine Cw_in rfl rfl ?_
  refine r_aload_n (p := 1) rfl rfl rfl ?_
  refine r_getI (p := 4) rfl rfl rfl rfl ?_
  refine r_ireturn rfl trivial ?_
  simp only [f_X4_wordsOld] at hQ; exact hQ
def f_X4_oldObjects (F : mF) (M : mM) : Int32 := (F 2 8)
set_option maxRecDepth 100000 in
theorem s_X4_oldObjects {d : Nat} {Y : mY} {F : mF} {M : mM} {L : mL} {Q : Option Value → mW → Prop} (hQ : Q (some (.int (f_X4_oldObjects F M))) ((mXY Y), F, M, L)) : Cw (d + 1) 87 [.ref 2] ((mXY Y), F, M, L) Q := by
  refine Cw_in rfl rfl ?_
  refine r_aload_n (p := 1) rfl rfl rfl ?_
  refine r_getI (p := 4) rfl rfl rfl rfl ?_
  refine r_ireturn rfl trivial ?_
  simp only [f_X4_oldObjects] at hQ; exact hQ
def f_X4_isLive (F : mF) (M : mM) (i : Int32) : Int32 := (if i < 0 then 0 else (if 100 ≤ i then 0 else (if (M 3 i) = 0 then 0 else 1)))
set_option maxRecDepth 100000 in
theorem s_X4_isLive {d : Nat} {Y : mY} {F : mF} {M : mM} {L : mL} {i : Int32} {Q : Option Value → mW → Prop} (hQ : Q (some (.int (f_X4_isLive F M i))) ((mXY Y), F, M, L)) : Cw (d + 1) 88 [.ref 2, .int i] ((mXY Y), F, M, L) Q := by
  refine Cw_in rfl rfl ?_
  refine r_iload_n (p := 1) rfl rfl rfl ?_
  refine r_if_lt (p := 4) rfl rfl (fun c1 => ?_) (fun c1 => ?_)
  · refine r_iconst (v := 0) (p := 24) rfl rfl rfl ?_
    refine r_ireturn rfl mok_0 ?_
    simp only [f_X4_isLive, if_pos c1] at hQ; exact hQ
  · refine r_iload_n (p := 5) rfl rfl rfl ?_
    refine r_bipush (v := 100) (p := 7) rfl rfl rfl ?_
    refine r_icmp_ge (p := 10) rfl rfl (fun c2 => ?_) (fun c2 => ?_)
    · refine r_iconst (v := 0) (p := 24) rfl rfl rfl ?_
      refine r_ireturn rfl mok_0 ?_
      simp only [f_X4_isLive, if_neg c1, if_pos c2] at hQ; exact hQ
    · refine r_aload_n (p := 11) rfl rfl rfl ?_
      refine r_getR (p := 14) rfl rfl rfl rfl rfl ?_
      refine r_iload_n (p := 15) rfl rfl rfl ?_
      refine r_iald (p := 16) rfl rfl rfl (vpi (v := 100) (by decide) rfl (by assumption) (by assumption)) rfl ?_
      refine r_if_eq (p := 19) rfl rfl (fun c3 => ?_) (fun c3 => ?_)
      · refine r_iconst (v := 0) (p := 24) rfl rfl rfl ?_
        refine r_ireturn rfl mok_0 ?_
        simp only [f_X4_isLive, if_neg c1, if_neg c2, if_pos c3] at hQ; exact hQ
      · refine r_iconst (v := 1) (p := 20) rfl rfl rfl ?_
        refine r_goto rfl ?_
        refine r_ireturn rfl mok_1 ?_
        simp only [f_X4_isLive, if_neg c1, if_neg c2, if_neg c3] at hQ; exact hQ
def f_X4_inNursery (F : mF) (M : mM) (i : Int32) : Int32 := (if i < 0 then 0 else (if 100 ≤ i then 0 else (if (M 3 i) = 1 then 1 else 0)))
set_option maxRecDepth 100000 in
theorem s_X4_inNursery {d : Nat} {Y : mY} {F : mF} {M : mM} {L : mL} {i : Int32} {Q : Option Value → mW → Prop} (hQ : Q (some (.int (f_X4_inNursery F M i))) ((mXY Y), F, M, L)) : Cw (d + 1) 89 [.ref 2, .int i] ((mXY Y), F, M, L) Q := by
  refine Cw_in rfl rfl ?_
  refine r_iload_n (p := 1) rfl rfl rfl ?_
  refine r_if_lt (p := 4) rfl rfl (fun c1 => ?_) (fun c1 => ?_)
  · refine r_iconst (v := 0) (p := 25) rfl rfl rfl ?_
    refine r_ireturn rfl mok_0 ?_
    simp only [f_X4_inNursery, if_pos c1] at hQ; exact hQ
  · refine r_iload_n (p := 5) rfl rfl rfl ?_
    refine r_bipush (v := 100) (p := 7) rfl rfl rfl ?_
    refine r_icmp_ge (p := 10) rfl rfl (fun c2 => ?_) (fun c2 => ?_)
    · refine r_iconst (v := 0) (p := 25) rfl rfl rfl ?_
      refine r_ireturn rfl mok_0 ?_
      simp only [f_X4_inNursery, if_neg c1, if_pos c2] at hQ; exact hQ
    · refine r_aload_n (p := 11) rfl rfl rfl ?_
      refine r_getR (p := 14) rfl rfl rfl rfl rfl ?_
      refine r_iload_n (p := 15) rfl rfl rfl ?_
      refine r_iald (p := 16) rfl rfl rfl (vpi (v := 100) (by decide) rfl (by assumption) (by assumption)) rfl ?_
      refine r_iconst (v := 1) (p := 17) rfl rfl rfl ?_
      refine r_icmp_ne (p := 20) rfl rfl (fun c3 => ?_) (fun c3 => ?_)
      · refine r_iconst (v := 0) (p := 25) rfl rfl rfl ?_
        refine r_ireturn rfl mok_0 ?_
        simp only [f_X4_inNursery, if_neg c1, if_neg c2, if_neg c3] at hQ; exact hQ
      · refine r_iconst (v := 1) (p := 21) rfl rfl rfl ?_
        refine r_goto rfl ?_
        refine r_ireturn rfl mok_1 ?_
        simp only [f_X4_inNursery, if_neg c1, if_neg c2, if_pos c3] at hQ; exact hQ
def f_X4_inOldGeneration (F : mF) (M : mM) (i : Int32) : Int32 := (if i < 0 then 0 else (if 100 ≤ i then 0 else (if (M 3 i) = 2 then 1 else 0)))
set_option maxRecDepth 100000 in
theorem s_X4_inOldGeneration {d : Nat} {Y : mY} {F : mF} {M : mM} {L : mL} {i : Int32} {Q : Option Value → mW → Prop} (hQ : Q (some (.int (f_X4_inOldGeneration F M i))) ((mXY Y), F, M, L)) : Cw (d + 1) 90 [.ref 2, .int i] ((mXY Y), F, M, L) Q := by
  refine Cw_in rfl rfl ?_
  refine r_iload_n (p := 1) rfl rfl rfl ?_
  refine r_if_lt (p := 4) rfl rfl (fun c1 => ?_) (fun c1 => ?_)
  · refine r_iconst (v := 0) (p := 25) rfl rfl rfl ?_
    refine r_ireturn rfl mok_0 ?_
    simp only [f_X4_inOldGeneration, if_pos c1] at hQ; exact hQ
  · refine r_iload_n (p := 5) rfl rfl rfl ?_
    refine r_bipush (v := 100) (p := 7) rfl rfl rfl ?_
    refine r_icmp_ge (p := 10) rfl rfl (fun c2 => ?_) (fun c2 => ?_)
    · refine r_iconst (v := 0) (p := 25) rfl rfl rfl ?_
      refine r_ireturn rfl mok_0 ?_
      simp only [f_X4_inOldGeneration, if_neg c1, if_pos c2] at hQ; exact hQ
    · refine r_aload_n (p := 11) rfl rfl rfl ?_
      refine r_getR (p := 14) rfl rfl rfl rfl rfl ?_
      refine r_iload_n (p := 15) rfl rfl rfl ?_
      refine r_iald (p := 16) rfl rfl rfl (vpi (v := 100) (by decide) rfl (by assumption) (by assumption)) rfl ?_
      refine r_iconst (v := 2) (p := 17) rfl rfl rfl ?_
      refine r_icmp_ne (p := 20) rfl rfl (fun c3 => ?_) (fun c3 => ?_)
      · refine r_iconst (v := 0) (p := 25) rfl rfl rfl ?_
        refine r_ireturn rfl mok_0 ?_
        simp only [f_X4_inOldGeneration, if_neg c1, if_neg c2, if_neg c3] at hQ; exact hQ
      · refine r_iconst (v := 1) (p := 21) rfl rfl rfl ?_
        refine r_goto rfl ?_
        refine r_ireturn rfl mok_1 ?_
        simp only [f_X4_inOldGeneration, if_neg c1, if_neg c2, if_pos c3] at hQ; exact hQ
def f_X4_ageOf (F : mF) (M : mM) (i : Int32) : Int32 := (if i < 0 then 0 else (if 100 ≤ i then 0 else (M 4 i)))
set_option maxRecDepth 100000 in
theorem s_X4_ageOf {d : Nat} {Y : mY} {F : mF} {M : mM} {L : mL} {i : Int32} {Q : Option Value → mW → Prop} (hQ : Q (some (.int (f_X4_ageOf F M i))) ((mXY Y), F, M, L)) : Cw (d + 1) 91 [.ref 2, .int i] ((mXY Y), F, M, L) Q := by
  refine Cw_in rfl rfl ?_
  refine r_iload_n (p := 1) rfl rfl rfl ?_
  refine r_if_lt (p := 4) rfl rfl (fun c1 => ?_) (fun c1 => ?_)
  · refine r_iconst (v := 0) (p := 20) rfl rfl rfl ?_
    refine r_ireturn rfl trivial ?_
    simp only [f_X4_ageOf, if_pos c1] at hQ; exact hQ
  · refine r_iload_n (p := 5) rfl rfl rfl ?_
    refine r_bipush (v := 100) (p := 7) rfl rfl rfl ?_
    refine r_icmp_ge (p := 10) rfl rfl (fun c2 => ?_) (fun c2 => ?_)
    · refine r_iconst (v := 0) (p := 20) rfl rfl rfl ?_
      refine r_ireturn rfl trivial ?_
      simp only [f_X4_ageOf, if_neg c1, if_pos c2] at hQ; exact hQ
    · refine r_aload_n (p := 11) rfl rfl rfl ?_
      refine r_getR (p := 14) rfl rfl rfl rfl rfl ?_
      refine r_iload_n (p := 15) rfl rfl rfl ?_
      refine r_iald (p := 16) rfl rfl rfl (vpi (v := 100) (by decide) rfl (by assumption) (by assumption)) rfl ?_
      refine r_goto rfl ?_
      refine r_ireturn rfl trivial ?_
      simp only [f_X4_ageOf, if_neg c1, if_neg c2] at hQ; exact hQ
def f_X4_fieldsOf (F : mF) (M : mM) (i : Int32) : Int32 := (if i < 0 then 0 else (if 100 ≤ i then 0 else (M 5 i)))
set_option maxRecDepth 100000 in
theorem s_X4_fieldsOf {d : Nat} {Y : mY} {F : mF} {M : mM} {L : mL} {i : Int32} {Q : Option Value → mW → Prop} (hQ : Q (some (.int (f_X4_fieldsOf F M i))) ((mXY Y), F, M, L)) : Cw (d + 1) 92 [.ref 2, .int i] ((mXY Y), F, M, L) Q := by
  refine Cw_in rfl rfl ?_
  refine r_iload_n (p := 1) rfl rfl rfl ?_
  refine r_if_lt (p := 4) rfl rfl (fun c1 => ?_) (fun c1 => ?_)
  · refine r_iconst (v := 0) (p := 20) rfl rfl rfl ?_
    refine r_ireturn rfl trivial ?_
    simp only [f_X4_fieldsOf, if_pos c1] at hQ; exact hQ
  · refine r_iload_n (p := 5) rfl rfl rfl ?_
    refine r_bipush (v := 100) (p := 7) rfl rfl rfl ?_
    refine r_icmp_ge (p := 10) rfl rfl (fun c2 => ?_) (fun c2 => ?_)
    · refine r_iconst (v := 0) (p := 20) rfl rfl rfl ?_
      refine r_ireturn rfl trivial ?_
      simp only [f_X4_fieldsOf, if_neg c1, if_pos c2] at hQ; exact hQ
    · refine r_aload_n (p := 11) rfl rfl rfl ?_
      refine r_getR (p := 14) rfl rfl rfl rfl rfl ?_
      refine r_iload_n (p := 15) rfl rfl rfl ?_
      refine r_iald (p := 16) rfl rfl rfl (vpi (v := 100) (by decide) rfl (by assumption) (by assumption)) rfl ?_
      refine r_goto rfl ?_
      refine r_ireturn rfl trivial ?_
      simp only [f_X4_fieldsOf, if_neg c1, if_neg c2] at hQ; exact hQ
def f_X4_sizeOf (F : mF) (M : mM) (i : Int32) : Int32 := (if i < 0 then 0 else (if 100 ≤ i then 0 else (1 + (M 5 i))))
set_option maxRecDepth 100000 in
theorem s_X4_sizeOf {d : Nat} {Y : mY} {F : mF} {M : mM} {L : mL} {i : Int32} {Q : Option Value → mW → Prop} (hQ : Q (some (.int (f_X4_sizeOf F M i))) ((mXY Y), F, M, L)) : Cw (d + 1) 93 [.ref 2, .int i] ((mXY Y), F, M, L) Q := by
  refine Cw_in rfl rfl ?_
  refine r_iload_n (p := 1) rfl rfl rfl ?_
  refine r_if_lt (p := 4) rfl rfl (fun c1 => ?_) (fun c1 => ?_)
  · refine r_iconst (v := 0) (p := 22) rfl rfl rfl ?_
    refine r_ireturn rfl trivial ?_
    simp only [f_X4_sizeOf, if_pos c1] at hQ; exact hQ
  · refine r_iload_n (p := 5) rfl rfl rfl ?_
    refine r_bipush (v := 100) (p := 7) rfl rfl rfl ?_
    refine r_icmp_ge (p := 10) rfl rfl (fun c2 => ?_) (fun c2 => ?_)
    · refine r_iconst (v := 0) (p := 22) rfl rfl rfl ?_
      refine r_ireturn rfl trivial ?_
      simp only [f_X4_sizeOf, if_neg c1, if_pos c2] at hQ; exact hQ
    · refine r_iconst (v := 1) (p := 11) rfl rfl rfl ?_
      refine r_aload_n (p := 12) rfl rfl rfl ?_
      refine r_getR (p := 15) rfl rfl rfl rfl rfl ?_
      refine r_iload_n (p := 16) rfl rfl rfl ?_
      refine r_iald (p := 17) rfl rfl rfl (vpi (v := 100) (by decide) rfl (by assumption) (by assumption)) rfl ?_
      refine r_iadd (p := 18) rfl rfl ?_
      refine r_goto rfl ?_
      refine r_ireturn rfl trivial ?_
      simp only [f_X4_sizeOf, if_neg c1, if_neg c2] at hQ; exact hQ
def f_X4_colourOf (F : mF) (M : mM) (i : Int32) : Int32 := (if i < 0 then 0 else (if 100 ≤ i then 0 else (M 6 i)))
set_option maxRecDepth 100000 in
theorem s_X4_colourOf {d : Nat} {Y : mY} {F : mF} {M : mM} {L : mL} {i : Int32} {Q : Option Value → mW → Prop} (hQ : Q (some (.int (f_X4_colourOf F M i))) ((mXY Y), F, M, L)) : Cw (d + 1) 94 [.ref 2, .int i] ((mXY Y), F, M, L) Q := by
  refine Cw_in rfl rfl ?_
  refine r_iload_n (p := 1) rfl rfl rfl ?_
  refine r_if_lt (p := 4) rfl rfl (fun c1 => ?_) (fun c1 => ?_)
  · refine r_iconst (v := 0) (p := 20) rfl rfl rfl ?_
    refine r_ireturn rfl trivial ?_
    simp only [f_X4_colourOf, if_pos c1] at hQ; exact hQ
  · refine r_iload_n (p := 5) rfl rfl rfl ?_
    refine r_bipush (v := 100) (p := 7) rfl rfl rfl ?_
    refine r_icmp_ge (p := 10) rfl rfl (fun c2 => ?_) (fun c2 => ?_)
    · refine r_iconst (v := 0) (p := 20) rfl rfl rfl ?_
      refine r_ireturn rfl trivial ?_
      simp only [f_X4_colourOf, if_neg c1, if_pos c2] at hQ; exact hQ
    · refine r_aload_n (p := 11) rfl rfl rfl ?_
      refine r_getR (p := 14) rfl rfl rfl rfl rfl ?_
      refine r_iload_n (p := 15) rfl rfl rfl ?_
      refine r_iald (p := 16) rfl rfl rfl (vpi (v := 100) (by decide) rfl (by assumption) (by assumption)) rfl ?_
      refine r_goto rfl ?_
      refine r_ireturn rfl trivial ?_
      simp only [f_X4_colourOf, if_neg c1, if_neg c2] at hQ; exact hQ
def f_X4_isWhiteOld (F : mF) (M : mM) (i : Int32) : Int32 := (if i < 0 then 0 else (if 100 ≤ i then 0 else (if (M 3 i) = 2 then (if (M 6 i) = 0 then 1 else 0) else 0)))
set_option maxRecDepth 100000 in
theorem s_X4_isWhiteOld {d : Nat} {Y : mY} {F : mF} {M : mM} {L : mL} {i : Int32} {Q : Option Value → mW → Prop} (hQ : Q (some (.int (f_X4_isWhiteOld F M i))) ((mXY Y), F, M, L)) : Cw (d + 1) 95 [.ref 2, .int i] ((mXY Y), F, M, L) Q := by
  refine Cw_in rfl rfl ?_
  refine r_iload_n (p := 1) rfl rfl rfl ?_
  refine r_if_lt (p := 4) rfl rfl (fun c1 => ?_) (fun c1 => ?_)
  · refine r_iconst (v := 0) (p := 34) rfl rfl rfl ?_
    refine r_ireturn rfl mok_0 ?_
    simp only [f_X4_isWhiteOld, if_pos c1] at hQ; exact hQ
  · refine r_iload_n (p := 5) rfl rfl rfl ?_
    refine r_bipush (v := 100) (p := 7) rfl rfl rfl ?_
    refine r_icmp_ge (p := 10) rfl rfl (fun c2 => ?_) (fun c2 => ?_)
    · refine r_iconst (v := 0) (p := 34) rfl rfl rfl ?_
      refine r_ireturn rfl mok_0 ?_
      simp only [f_X4_isWhiteOld, if_neg c1, if_pos c2] at hQ; exact hQ
    · refine r_aload_n (p := 11) rfl rfl rfl ?_
      refine r_getR (p := 14) rfl rfl rfl rfl rfl ?_
      refine r_iload_n (p := 15) rfl rfl rfl ?_
      refine r_iald (p := 16) rfl rfl rfl (vpi (v := 100) (by decide) rfl (by assumption) (by assumption)) rfl ?_
      refine r_iconst (v := 2) (p := 17) rfl rfl rfl ?_
      refine r_icmp_ne (p := 20) rfl rfl (fun c3 => ?_) (fun c3 => ?_)
      · refine r_iconst (v := 0) (p := 34) rfl rfl rfl ?_
        refine r_ireturn rfl mok_0 ?_
        simp only [f_X4_isWhiteOld, if_neg c1, if_neg c2, if_neg c3] at hQ; exact hQ
      · refine r_aload_n (p := 21) rfl rfl rfl ?_
        refine r_getR (p := 24) rfl rfl rfl rfl rfl ?_
        refine r_iload_n (p := 25) rfl rfl rfl ?_
        refine r_iald (p := 26) rfl rfl rfl (vpi (v := 100) (by decide) rfl (by assumption) (by assumption)) rfl ?_
        refine r_if_ne (p := 29) rfl rfl (fun c4 => ?_) (fun c4 => ?_)
        · refine r_iconst (v := 0) (p := 34) rfl rfl rfl ?_
          refine r_ireturn rfl mok_0 ?_
          simp only [f_X4_isWhiteOld, if_neg c1, if_neg c2, if_pos c3, if_neg c4] at hQ; exact hQ
        · refine r_iconst (v := 1) (p := 30) rfl rfl rfl ?_
          refine r_goto rfl ?_
          refine r_ireturn rfl mok_1 ?_
          simp only [f_X4_isWhiteOld, if_neg c1, if_neg c2, if_pos c3, if_pos c4] at hQ; exact hQ
def gM_X4_growOlder (F : mF) (M : mM) (i : Int32) : mM := (if i < 0 then M else (if 100 ≤ i then M else (uM M 4 i ((M 4 i) + 1))))
set_option maxRecDepth 100000 in
theorem s_X4_growOlder {d : Nat} {Y : mY} {F : mF} {M : mM} {L : mL} {i : Int32} {Q : Option Value → mW → Prop} (hQ : Q none ((mXY Y), F, gM_X4_growOlder F M i, L)) : Cw (d + 1) 101 [.ref 2, .int i] ((mXY Y), F, M, L) Q := by
  refine Cw_in rfl rfl ?_
  refine r_iload_n (p := 1) rfl rfl rfl ?_
  refine r_if_lt (p := 4) rfl rfl (fun c1 => ?_) (fun c1 => ?_)
  · refine r_return rfl ?_
    simp only [gM_X4_growOlder, if_pos c1] at hQ; exact hQ
  · refine r_iload_n (p := 5) rfl rfl rfl ?_
    refine r_bipush (v := 100) (p := 7) rfl rfl rfl ?_
    refine r_icmp_ge (p := 10) rfl rfl (fun c2 => ?_) (fun c2 => ?_)
    · refine r_return rfl ?_
      simp only [gM_X4_growOlder, if_neg c1, if_pos c2] at hQ; exact hQ
    · refine r_aload_n (p := 11) rfl rfl rfl ?_
      refine r_getR (p := 14) rfl rfl rfl rfl rfl ?_
      refine r_iload_n (p := 15) rfl rfl rfl ?_
      refine r_dup2 (p := 16) rfl rfl rfl rfl ?_
      refine r_iald (p := 17) rfl rfl rfl (vpi (v := 100) (by decide) rfl (by assumption) (by assumption)) rfl ?_
      refine r_iconst (v := 1) (p := 18) rfl rfl rfl ?_
      refine r_iadd (p := 19) rfl rfl ?_
      refine r_iast (p := 20) rfl rfl rfl (vpi (v := 100) (by decide) rfl (by assumption) (by assumption)) (by decide) rfl ?_
      refine r_return rfl ?_
      simp only [gM_X4_growOlder, if_neg c1, if_neg c2] at hQ; exact hQ
def gM_X4_paint (F : mF) (M : mM) (i : Int32) (c : Int32) : mM := (if i < 0 then M else (if 100 ≤ i then M else (uM M 6 i c)))
set_option maxRecDepth 100000 in
theorem s_X4_paint {d : Nat} {Y : mY} {F : mF} {M : mM} {L : mL} {i : Int32} {c : Int32} {Q : Option Value → mW → Prop} (hQ : Q none ((mXY Y), F, gM_X4_paint F M i c, L)) : Cw (d + 1) 102 [.ref 2, .int i, .int c] ((mXY Y), F, M, L) Q := by
  refine Cw_in rfl rfl ?_
  refine r_iload_n (p := 1) rfl rfl rfl ?_
  refine r_if_lt (p := 4) rfl rfl (fun c1 => ?_) (fun c1 => ?_)
  · refine r_return rfl ?_
    simp only [gM_X4_paint, if_pos c1] at hQ; exact hQ
  · refine r_iload_n (p := 5) rfl rfl rfl ?_
    refine r_bipush (v := 100) (p := 7) rfl rfl rfl ?_
    refine r_icmp_ge (p := 10) rfl rfl (fun c2 => ?_) (fun c2 => ?_)
    · refine r_return rfl ?_
      simp only [gM_X4_paint, if_neg c1, if_pos c2] at hQ; exact hQ
    · refine r_aload_n (p := 11) rfl rfl rfl ?_
      refine r_getR (p := 14) rfl rfl rfl rfl rfl ?_
      refine r_iload_n (p := 15) rfl rfl rfl ?_
      refine r_iload_n (p := 16) rfl rfl rfl ?_
      refine r_iast (p := 17) rfl rfl rfl (vpi (v := 100) (by decide) rfl (by assumption) (by assumption)) (by decide) rfl ?_
      refine r_return rfl ?_
      simp only [gM_X4_paint, if_neg c1, if_neg c2] at hQ; exact hQ
def f_X4_hasField (F : mF) (M : mM) (i : Int32) (f : Int32) : Int32 := (if (f_X4_isLive F M i) = 0 then 0 else (if f < 0 then 0 else (if (f_X4_fieldsOf F M i) ≤ f then 0 else 1)))
set_option maxRecDepth 100000 in
theorem s_X4_hasField {d : Nat} {Y : mY} {F : mF} {M : mM} {L : mL} {i : Int32} {f : Int32} {Q : Option Value → mW → Prop} (hQ : Q (some (.int (f_X4_hasField F M i f))) ((mXY Y), F, M, L)) : Cw (d + 2) 96 [.ref 2, .int i, .int f] ((mXY Y), F, M, L) Q := by
  refine Cw_in rfl rfl ?_
  refine r_aload_n (p := 1) rfl rfl rfl ?_
  refine r_iload_n (p := 2) rfl rfl rfl ?_
  refine r_cV (p := 5) rfl rfl rfl (Nat.le_of_ble_eq_true rfl) rfl (s_X4_isLive  ?_)
  refine r_if_eq (p := 8) rfl rfl (fun c1 => ?_) (fun c1 => ?_)
  · refine r_iconst (v := 0) (p := 26) rfl rfl rfl ?_
    refine r_ireturn rfl mok_0 ?_
    simp only [f_X4_hasField, if_pos c1] at hQ; exact hQ
  · refine r_iload_n (p := 9) rfl rfl rfl ?_
    refine r_if_lt (p := 12) rfl rfl (fun c2 => ?_) (fun c2 => ?_)
    · refine r_iconst (v := 0) (p := 26) rfl rfl rfl ?_
      refine r_ireturn rfl mok_0 ?_
      simp only [f_X4_hasField, if_neg c1, if_pos c2] at hQ; exact hQ
    · refine r_iload_n (p := 13) rfl rfl rfl ?_
      refine r_aload_n (p := 14) rfl rfl rfl ?_
      refine r_iload_n (p := 15) rfl rfl rfl ?_
      refine r_cV (p := 18) rfl rfl rfl (Nat.le_of_ble_eq_true rfl) rfl (s_X4_fieldsOf  ?_)
      refine r_icmp_ge (p := 21) rfl rfl (fun c3 => ?_) (fun c3 => ?_)
      · refine r_iconst (v := 0) (p := 26) rfl rfl rfl ?_
        refine r_ireturn rfl mok_0 ?_
        simp only [f_X4_hasField, if_neg c1, if_neg c2, if_pos c3] at hQ; exact hQ
      · refine r_iconst (v := 1) (p := 22) rfl rfl rfl ?_
        refine r_goto rfl ?_
        refine r_ireturn rfl mok_1 ?_
        simp only [f_X4_hasField, if_neg c1, if_neg c2, if_neg c3] at hQ; exact hQ
theorem vp_fld {i f : Int32} (h0 : ¬ i < 0) (h1 : ¬ (100 : Int32) ≤ i) (h2 : ¬ f < 0) (h3 : ¬ (4 : Int32) ≤ f) : vp_in (i * 4 + f) 400 := by
  obtain ⟨a, ha, rfl⟩ := nI_of h0
  obtain ⟨b, hb, rfl⟩ := nI_of h2
  have ha2 : a < 100 := Nat.lt_of_not_le fun z => h1 (nI_le (a := 100) z ha)
  have hb2 : b < 4 := Nat.lt_of_not_le fun z => h3 (nI_le (a := 4) z hb)
  have e : nI a * 4 + nI b = nI (a * 4 + b) := by rw [show (4 : Int32) = nI 4 from rfl, pk_mul, nI_add]
  rw [e]
  exact vp_in_nI (by omega) (by omega)
def f_X4_fieldOf (F : mF) (M : mM) (i : Int32) (f : Int32) : Int32 := (if i < 0 then (-1) else (if 100 ≤ i then (-1) else (if f < 0 then (-1) else (if 4 ≤ f then (-1) else (M 7 ((i * 4) + f))))))
set_option maxRecDepth 100000 in
theorem s_X4_fieldOf {d : Nat} {Y : mY} {F : mF} {M : mM} {L : mL} {i : Int32} {f : Int32} {Q : Option Value → mW → Prop} (hQ : Q (some (.int (f_X4_fieldOf F M i f))) ((mXY Y), F, M, L)) : Cw (d + 1) 97 [.ref 2, .int i, .int f] ((mXY Y), F, M, L) Q := by
  refine Cw_in rfl rfl ?_
  refine r_iload_n (p := 1) rfl rfl rfl ?_
  refine r_if_lt (p := 4) rfl rfl (fun c1 => ?_) (fun c1 => ?_)
  · refine r_iconst (v := 0) (p := 24) rfl rfl rfl ?_
    refine r_istore_n (p := 25) rfl rfl rfl ?_
    refine r_iload_n (p := 26) rfl rfl rfl ?_
    refine r_if_eq (p := 29) rfl rfl (fun _ => ?_) (fun c => absurd c (by decide))
    refine r_iconst (v := (-1)) (p := 43) rfl rfl rfl ?_
    refine r_ireturn rfl trivial ?_
    simp only [f_X4_fieldOf, if_pos c1] at hQ; exact hQ
  · refine r_iload_n (p := 5) rfl rfl rfl ?_
    refine r_bipush (v := 100) (p := 7) rfl rfl rfl ?_
    refine r_icmp_ge (p := 10) rfl rfl (fun c2 => ?_) (fun c2 => ?_)
    · refine r_iconst (v := 0) (p := 24) rfl rfl rfl ?_
      refine r_istore_n (p := 25) rfl rfl rfl ?_
      refine r_iload_n (p := 26) rfl rfl rfl ?_
      refine r_if_eq (p := 29) rfl rfl (fun _ => ?_) (fun c => absurd c (by decide))
      refine r_iconst (v := (-1)) (p := 43) rfl rfl rfl ?_
      refine r_ireturn rfl trivial ?_
      simp only [f_X4_fieldOf, if_neg c1, if_pos c2] at hQ; exact hQ
    · refine r_iload_n (p := 11) rfl rfl rfl ?_
      refine r_if_lt (p := 14) rfl rfl (fun c3 => ?_) (fun c3 => ?_)
      · refine r_iconst (v := 0) (p := 24) rfl rfl rfl ?_
        refine r_istore_n (p := 25) rfl rfl rfl ?_
        refine r_iload_n (p := 26) rfl rfl rfl ?_
        refine r_if_eq (p := 29) rfl rfl (fun _ => ?_) (fun c => absurd c (by decide))
        refine r_iconst (v := (-1)) (p := 43) rfl rfl rfl ?_
        refine r_ireturn rfl trivial ?_
        simp only [f_X4_fieldOf, if_neg c1, if_neg c2, if_pos c3] at hQ; exact hQ
      · refine r_iload_n (p := 15) rfl rfl rfl ?_
        refine r_iconst (v := 4) (p := 16) rfl rfl rfl ?_
        refine r_icmp_ge (p := 19) rfl rfl (fun c4 => ?_) (fun c4 => ?_)
        · refine r_iconst (v := 0) (p := 24) rfl rfl rfl ?_
          refine r_istore_n (p := 25) rfl rfl rfl ?_
          refine r_iload_n (p := 26) rfl rfl rfl ?_
          refine r_if_eq (p := 29) rfl rfl (fun _ => ?_) (fun c => absurd c (by decide))
          refine r_iconst (v := (-1)) (p := 43) rfl rfl rfl ?_
          refine r_ireturn rfl trivial ?_
          simp only [f_X4_fieldOf, if_neg c1, if_neg c2, if_neg c3, if_pos c4] at hQ; exact hQ
        · refine r_iconst (v := 1) (p := 20) rfl rfl rfl ?_
          refine r_goto rfl ?_
          refine r_istore_n (p := 25) rfl rfl rfl ?_
          refine r_iload_n (p := 26) rfl rfl rfl ?_
          refine r_if_eq (p := 29) rfl rfl (fun c => absurd c (by decide)) (fun _ => ?_)
          refine r_aload_n (p := 30) rfl rfl rfl ?_
          refine r_getR (p := 33) rfl rfl rfl rfl rfl ?_
          refine r_iload_n (p := 34) rfl rfl rfl ?_
          refine r_iconst (v := 4) (p := 35) rfl rfl rfl ?_
          refine r_imul (p := 36) rfl rfl ?_
          refine r_iload_n (p := 37) rfl rfl rfl ?_
          refine r_iadd (p := 38) rfl rfl ?_
          refine r_iald (p := 39) rfl rfl rfl (vp_fld (by assumption) (by assumption) (by assumption) (by assumption)) rfl ?_
          refine r_goto rfl ?_
          refine r_ireturn rfl trivial ?_
          simp only [f_X4_fieldOf, if_neg c1, if_neg c2, if_neg c3, if_neg c4] at hQ; exact hQ
