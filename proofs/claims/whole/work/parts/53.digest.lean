/-! ===== digest ===== -/
def mx (h : Int64) (v : Int32) : Int64 := 31 * h + v.toInt64
def obL (s : mSt) (i : Int32) : List Int32 := [i, (if sG s i = 2 then 1 else 0), sA s i, sN s i] ++ flds s i ++ (if sG s i = 2 ∧ ¬ sPh s = 0 then [sC s i] else [])
def ob (s : mSt) (h : Int64) (i : Int32) : Int64 := if sG s i = 0 then h else (obL s i).foldl mx h
def dgC (b : mBs) : List Int32 := [b.2.1 0, b.2.1 1, b.2.1 2, nI b.2.2.1.length, nI b.2.2.2.length, sO b.1 0, sO b.1 1, sO b.1 2, sO b.1 3, sPh b.1, nI (sQu b.1).length, sAl b.1, sFa b.1, sMi b.1, sMa b.1]
def lsL (h : Int64) (l : List Int32) : Int64 := l.foldl mx (mx h (nI l.length))
def dgG (s : mSt) (h : Int64) : Int64 := lsL (mx (mx (mx (lsL h (sNu s)) (wds (sG s) (sN s) 1)) (cnt (sG s) 2)) (wds (sG s) (sN s) 2)) (sKn s)
def dgs (b : mBs) : Int64 := mx ((seqI 100 0).foldl (ob b.1) (dgG b.1 ((dgC b).foldl mx 18028))) (nI (rcc b.1).length)
set_option maxRecDepth 100000 in
theorem s_mx {d : Nat} {w : mW} {h : Int64} {v : Int32} {Q : Option Value → mW → Prop} (hQ : Q (some (.long (mx h v))) w) : Cw (d + 1) 212 [.long h, .long v.toInt64] w Q := by
  refine Cw_in rfl rfl ?_
  refine r_ldc2 (v := 31) (p := 3) rfl rfl rfl ?_
  refine r_lload_n (p := 4) rfl rfl rfl ?_
  refine r_lmul (p := 5) rfl rfl ?_
  refine r_lload_n (p := 6) rfl rfl rfl ?_
  refine r_ladd (p := 7) rfl rfl ?_
  exact r_lreturn rfl hQ
def f_X5_textLength (F : mF) (M : mM) : Int32 := (F 29 3)
set_option maxRecDepth 100000 in
theorem s_X5_textLength {d : Nat} {Y : mY} {F : mF} {M : mM} {L : mL} {Q : Option Value → mW → Prop} (hQ : Q (some (.int (f_X5_textLength F M))) ((mXY Y), F, M, L)) : Cw (d + 1) 150 [.ref 29] ((mXY Y), F, M, L) Q := by
  refine Cw_in rfl rfl ?_
  refine r_aload_n (p := 1) rfl rfl rfl ?_
  refine r_getI (p := 4) rfl rfl rfl rfl ?_
  refine r_ireturn rfl trivial ?_
  simp only [f_X5_textLength] at hQ; exact hQ
set_option maxRecDepth 100000 in
theorem s_X6_digestOfCounters {d : Nat} {Y : mY} {F : mF} {M : mM} {L : mL} {b : mBs} {h : Int64} {Q : Option Value → mW → Prop} (H : BC b Y F M) (ht : b.2.2.2.length ≤ 1000) (hQ : Q (some (.long ((dgC b).foldl mx h))) (mXY Y, F, M, L)) : Cw (d + 3) 213 [.ref 0, .long h] (mXY Y, F, M, L) Q := by
  have e0 : M 33 0 = b.2.1 0 := H.2.1 0 (by omega)
  have e1 : M 33 1 = b.2.1 1 := H.2.1 1 (by omega)
  have e2 : M 33 2 = b.2.1 2 := H.2.1 2 (by omega)
  have r0 : f_X0_rootAt F M 0 = sO b.1 0 := H.1.rt (k := 0) (by omega)
  have r1 : f_X0_rootAt F M 1 = sO b.1 1 := H.1.rt (k := 1) (by omega)
  have r2 : f_X0_rootAt F M 2 = sO b.1 2 := H.1.rt (k := 2) (by omega)
  have r3 : f_X0_rootAt F M 3 = sO b.1 3 := H.1.rt (k := 3) (by omega)
  obtain ⟨ho, hy, hs⟩ := H.2.2.2
  obtain ⟨hv, hT⟩ := hs.tx ht
  have hro : (mXY Y).2.2.2.1 0 6 = some ho := hy
  refine Cw_in rfl rfl ?_
  refine r_lload_n (p := 1) rfl rfl rfl ?_
  refine r_lstore_n (p := 2) rfl rfl rfl ?_
  refine r_iconst (v := 0) (p := 3) rfl rfl rfl ?_
  refine r_istore (p := 5) rfl rfl rfl ?_
  refine r_iload (p := 7) rfl rfl rfl ?_
  refine r_iconst (v := 3) (p := 8) rfl rfl rfl ?_
  refine r_icmp_ge (p := 11) rfl rfl (fun c => absurd c (by decide)) (fun _ => ?_)
  refine r_lload_n (p := 12) rfl rfl rfl ?_
  refine r_aload_n (p := 13) rfl rfl rfl ?_
  refine r_getR (p := 16) rfl rfl rfl rfl rfl ?_
  refine r_iload (p := 18) rfl rfl rfl ?_
  refine r_iald (p := 19) rfl rfl rfl (vp3 (by decide)) rfl ?_
  rw [e0]
  refine r_i2l (p := 20) rfl rfl ?_
  refine r_cS1 (p := 23) rfl rfl (Nat.le_of_ble_eq_true rfl) rfl (s_mx ?_)
  refine r_lstore_n (p := 24) rfl rfl rfl ?_
  refine r_iinc (v := 1) (p := 27) rfl rfl rfl rfl rfl ?_
  refine r_goto rfl ?_
  refine r_iload (p := 7) rfl rfl rfl ?_
  refine r_iconst (v := 3) (p := 8) rfl rfl rfl ?_
  refine r_icmp_ge (p := 11) rfl rfl (fun c => absurd c (by decide)) (fun _ => ?_)
  refine r_lload_n (p := 12) rfl rfl rfl ?_
  refine r_aload_n (p := 13) rfl rfl rfl ?_
  refine r_getR (p := 16) rfl rfl rfl rfl rfl ?_
  refine r_iload (p := 18) rfl rfl rfl ?_
  refine r_iald (p := 19) rfl rfl rfl (vp3 (by decide)) rfl ?_
  rw [e1]
  refine r_i2l (p := 20) rfl rfl ?_
  refine r_cS1 (p := 23) rfl rfl (Nat.le_of_ble_eq_true rfl) rfl (s_mx ?_)
  refine r_lstore_n (p := 24) rfl rfl rfl ?_
  refine r_iinc (v := 2) (p := 27) rfl rfl rfl rfl rfl ?_
  refine r_goto rfl ?_
  refine r_iload (p := 7) rfl rfl rfl ?_
  refine r_iconst (v := 3) (p := 8) rfl rfl rfl ?_
  refine r_icmp_ge (p := 11) rfl rfl (fun c => absurd c (by decide)) (fun _ => ?_)
  refine r_lload_n (p := 12) rfl rfl rfl ?_
  refine r_aload_n (p := 13) rfl rfl rfl ?_
  refine r_getR (p := 16) rfl rfl rfl rfl rfl ?_
  refine r_iload (p := 18) rfl rfl rfl ?_
  refine r_iald (p := 19) rfl rfl rfl (vp3 (by decide)) rfl ?_
  rw [e2]
  refine r_i2l (p := 20) rfl rfl ?_
  refine r_cS1 (p := 23) rfl rfl (Nat.le_of_ble_eq_true rfl) rfl (s_mx ?_)
  refine r_lstore_n (p := 24) rfl rfl rfl ?_
  refine r_iinc (v := 3) (p := 27) rfl rfl rfl rfl rfl ?_
  refine r_goto rfl ?_
  refine r_iload (p := 7) rfl rfl rfl ?_
  refine r_iconst (v := 3) (p := 8) rfl rfl rfl ?_
  refine r_icmp_ge (p := 11) rfl rfl (fun _ => ?_) (fun c => absurd c (by decide))
  refine r_lload_n (p := 31) rfl rfl rfl ?_
  refine r_aload_n (p := 32) rfl rfl rfl ?_
  refine r_getR (p := 35) rfl rfl rfl rfl rfl ?_
  refine r_cV (p := 38) rfl rfl rfl (Nat.le_of_ble_eq_true rfl) rfl (s_X5_textLength ?_)
  rw [show f_X5_textLength F M = nI b.2.2.1.length from H.2.2.1.1]
  refine r_i2l (p := 39) rfl rfl ?_
  refine r_cS1 (p := 42) rfl rfl (Nat.le_of_ble_eq_true rfl) rfl (s_mx ?_)
  refine r_lstore_n (p := 43) rfl rfl rfl ?_
  refine r_lload_n (p := 44) rfl rfl rfl ?_
  refine r_aload_n (p := 45) rfl rfl rfl ?_
  refine r_getR (p := 48) rfl rfl rfl hro rfl ?_
  refine r_cV (p := 51) rfl rfl hT.kd (Nat.le_of_ble_eq_true rfl) rfl (s_J0_length hT ?_)
  refine r_i2l (p := 52) rfl rfl ?_
  refine r_cS1 (p := 55) rfl rfl (Nat.le_of_ble_eq_true rfl) rfl (s_mx ?_)
  refine r_lstore_n (p := 56) rfl rfl rfl ?_
  refine r_iconst (v := 0) (p := 57) rfl rfl rfl ?_
  refine r_istore (p := 59) rfl rfl rfl ?_
  refine r_iload (p := 61) rfl rfl rfl ?_
  refine r_iconst (v := 4) (p := 62) rfl rfl rfl ?_
  refine r_icmp_ge (p := 65) rfl rfl (fun c => absurd c (by decide)) (fun _ => ?_)
  refine r_lload_n (p := 66) rfl rfl rfl ?_
  refine r_aload_n (p := 67) rfl rfl rfl ?_
  refine r_getR (p := 70) rfl rfl rfl rfl rfl ?_
  refine r_iload (p := 72) rfl rfl rfl ?_
  refine r_cV (p := 75) rfl rfl rfl (Nat.le_of_ble_eq_true rfl) rfl (s_X0_rootAt ?_)
  rw [r0]
  refine r_i2l (p := 76) rfl rfl ?_
  refine r_cS1 (p := 79) rfl rfl (Nat.le_of_ble_eq_true rfl) rfl (s_mx ?_)
  refine r_lstore_n (p := 80) rfl rfl rfl ?_
  refine r_iinc (v := 1) (p := 83) rfl rfl rfl rfl rfl ?_
  refine r_goto rfl ?_
  refine r_iload (p := 61) rfl rfl rfl ?_
  refine r_iconst (v := 4) (p := 62) rfl rfl rfl ?_
  refine r_icmp_ge (p := 65) rfl rfl (fun c => absurd c (by decide)) (fun _ => ?_)
  refine r_lload_n (p := 66) rfl rfl rfl ?_
  refine r_aload_n (p := 67) rfl rfl rfl ?_
  refine r_getR (p := 70) rfl rfl rfl rfl rfl ?_
  refine r_iload (p := 72) rfl rfl rfl ?_
  refine r_cV (p := 75) rfl rfl rfl (Nat.le_of_ble_eq_true rfl) rfl (s_X0_rootAt ?_)
  rw [r1]
  refine r_i2l (p := 76) rfl rfl ?_
  refine r_cS1 (p := 79) rfl rfl (Nat.le_of_ble_eq_true rfl) rfl (s_mx ?_)
  refine r_lstore_n (p := 80) rfl rfl rfl ?_
  refine r_iinc (v := 2) (p := 83) rfl rfl rfl rfl rfl ?_
  refine r_goto rfl ?_
  refine r_iload (p := 61) rfl rfl rfl ?_
  refine r_iconst (v := 4) (p := 62) rfl rfl rfl ?_
  refine r_icmp_ge (p := 65) rfl rfl (fun c => absurd c (by decide)) (fun _ => ?_)
  refine r_lload_n (p := 66) rfl rfl rfl ?_
  refine r_aload_n (p := 67) rfl rfl rfl ?_
  refine r_getR (p := 70) rfl rfl rfl rfl rfl ?_
  refine r_iload (p := 72) rfl rfl rfl ?_
  refine r_cV (p := 75) rfl rfl rfl (Nat.le_of_ble_eq_true rfl) rfl (s_X0_rootAt ?_)
  rw [r2]
  refine r_i2l (p := 76) rfl rfl ?_
  refine r_cS1 (p := 79) rfl rfl (Nat.le_of_ble_eq_true rfl) rfl (s_mx ?_)
  refine r_lstore_n (p := 80) rfl rfl rfl ?_
  refine r_iinc (v := 3) (p := 83) rfl rfl rfl rfl rfl ?_
  refine r_goto rfl ?_
  refine r_iload (p := 61) rfl rfl rfl ?_
  refine r_iconst (v := 4) (p := 62) rfl rfl rfl ?_
  refine r_icmp_ge (p := 65) rfl rfl (fun c => absurd c (by decide)) (fun _ => ?_)
  refine r_lload_n (p := 66) rfl rfl rfl ?_
  refine r_aload_n (p := 67) rfl rfl rfl ?_
  refine r_getR (p := 70) rfl rfl rfl rfl rfl ?_
  refine r_iload (p := 72) rfl rfl rfl ?_
  refine r_cV (p := 75) rfl rfl rfl (Nat.le_of_ble_eq_true rfl) rfl (s_X0_rootAt ?_)
  rw [r3]
  refine r_i2l (p := 76) rfl rfl ?_
  refine r_cS1 (p := 79) rfl rfl (Nat.le_of_ble_eq_true rfl) rfl (s_mx ?_)
  refine r_lstore_n (p := 80) rfl rfl rfl ?_
  refine r_iinc (v := 4) (p := 83) rfl rfl rfl rfl rfl ?_
  refine r_goto rfl ?_
  refine r_iload (p := 61) rfl rfl rfl ?_
  refine r_iconst (v := 4) (p := 62) rfl rfl rfl ?_
  refine r_icmp_ge (p := 65) rfl rfl (fun _ => ?_) (fun c => absurd c (by decide))
  refine r_lload_n (p := 87) rfl rfl rfl ?_
  refine r_aload_n (p := 88) rfl rfl rfl ?_
  refine r_getR (p := 91) rfl rfl rfl rfl rfl ?_
  refine r_cV (p := 94) rfl rfl rfl (Nat.le_of_ble_eq_true rfl) rfl (s_X2_currentPhase ?_)
  rw [show f_X2_currentPhase F M = sPh b.1 from H.1.2.2.2.2.2.2.2.2.2.2.2.2.1.1]
  refine r_i2l (p := 95) rfl rfl ?_
  refine r_cS1 (p := 98) rfl rfl (Nat.le_of_ble_eq_true rfl) rfl (s_mx ?_)
  refine r_lstore_n (p := 99) rfl rfl rfl ?_
  refine r_lload_n (p := 100) rfl rfl rfl ?_
  refine r_aload_n (p := 101) rfl rfl rfl ?_
  refine r_getR (p := 104) rfl rfl rfl rfl rfl ?_
  refine r_cV (p := 107) rfl rfl rfl (Nat.le_of_ble_eq_true rfl) rfl (s_X2_greyObjects ?_)
  rw [show f_X2_greyObjects F M = nI (sQu b.1).length from H.1.2.2.2.2.2.2.2.2.1.1]
  refine r_i2l (p := 108) rfl rfl ?_
  refine r_cS1 (p := 111) rfl rfl (Nat.le_of_ble_eq_true rfl) rfl (s_mx ?_)
  refine r_lstore_n (p := 112) rfl rfl rfl ?_
  refine r_lload_n (p := 113) rfl rfl rfl ?_
  refine r_aload_n (p := 114) rfl rfl rfl ?_
  refine r_getR (p := 117) rfl rfl rfl rfl rfl ?_
  refine r_cV (p := 120) rfl rfl rfl (Nat.le_of_ble_eq_true rfl) rfl (s_X4_allocatedObjects ?_)
  rw [show f_X4_allocatedObjects F M = sAl b.1 from H.1.2.2.2.2.2.2.2.2.2.2.2.1.1]
  refine r_i2l (p := 121) rfl rfl ?_
  refine r_cS1 (p := 124) rfl rfl (Nat.le_of_ble_eq_true rfl) rfl (s_mx ?_)
  refine r_lstore_n (p := 125) rfl rfl rfl ?_
  refine r_lload_n (p := 126) rfl rfl rfl ?_
  refine r_aload_n (p := 127) rfl rfl rfl ?_
  refine r_getR (p := 130) rfl rfl rfl rfl rfl ?_
  refine r_cV (p := 133) rfl rfl rfl (Nat.le_of_ble_eq_true rfl) rfl (s_X3_failedPromotions ?_)
  rw [show f_X3_failedPromotions F M = sFa b.1 from H.1.2.2.2.2.2.2.2.2.2.2.2.2.2.1]
  refine r_i2l (p := 134) rfl rfl ?_
  refine r_cS1 (p := 137) rfl rfl (Nat.le_of_ble_eq_true rfl) rfl (s_mx ?_)
  refine r_lstore_n (p := 138) rfl rfl rfl ?_
  refine r_lload_n (p := 139) rfl rfl rfl ?_
  refine r_aload_n (p := 140) rfl rfl rfl ?_
  refine r_getR (p := 143) rfl rfl rfl rfl rfl ?_
  refine r_cV (p := 146) rfl rfl rfl (Nat.le_of_ble_eq_true rfl) rfl (s_X3_completedRuns ?_)
  rw [show f_X3_completedRuns F M = sMi b.1 from H.1.2.2.2.2.2.2.2.2.2.2.2.2.2.2]
  refine r_i2l (p := 147) rfl rfl ?_
  refine r_cS1 (p := 150) rfl rfl (Nat.le_of_ble_eq_true rfl) rfl (s_mx ?_)
  refine r_lstore_n (p := 151) rfl rfl rfl ?_
  refine r_lload_n (p := 152) rfl rfl rfl ?_
  refine r_aload_n (p := 153) rfl rfl rfl ?_
  refine r_getR (p := 156) rfl rfl rfl rfl rfl ?_
  refine r_cV (p := 159) rfl rfl rfl (Nat.le_of_ble_eq_true rfl) rfl (s_X2_completedCycles ?_)
  rw [show f_X2_completedCycles F M = sMa b.1 from H.1.2.2.2.2.2.2.2.2.2.2.2.2.1.2]
  refine r_i2l (p := 160) rfl rfl ?_
  refine r_cS1 (p := 163) rfl rfl (Nat.le_of_ble_eq_true rfl) rfl (s_mx ?_)
  exact r_lreturn rfl hQ
set_option maxRecDepth 100000 in
theorem lp_X6_digestOfList {d : Nat} {X : mX} {F : mF} {M : mM} {L : mL} {x : Nat} {l : List Int32} {h0 : Int64} {Q : Option Value → mW → Prop} (hI : mIL X x) (H : IL x l F M) :
    ∀ (t : List Int32) (j : Nat) (h : Int64), l.drop j = t → j ≤ l.length → Q (some (.long (t.foldl mx h))) (X, F, M, L) → Wp (d + 1) tX6_digestOfList 13 [some (.long h0), none, some (.ref x), some (.long h), none, some (.int (nI j))] [] (X, F, M, L) Q
  | [], j, h, hj, hjl, hQ => by
    have hd : l.length ≤ j := List.drop_eq_nil_iff.mp hj
    have hL := H.len
    have hI2 := hI
    obtain ⟨b0, b1, b2, k0, q0, q1, k1, k2⟩ := hI2
    refine r_iload (p := 15) rfl rfl rfl ?_
    refine r_aload_n (p := 16) rfl rfl rfl ?_
    refine r_cV (p := 19) rfl rfl (mkd_o b0 k0) (Nat.le_of_ble_eq_true rfl) rfl (s_X1_size hI ?_)
    rw [show f_X1_size F M x = nI l.length from H.1]
    refine r_icmp_ge (p := 22) rfl rfl (fun c1 => ?_) (fun c1 => ?_)
    · refine r_lload_n (p := 41) rfl rfl rfl ?_
      exact r_lreturn rfl hQ
    · exact absurd (nI_le hd (by omega)) c1
  | y :: t, j, h, hj, hjl, hQ => by
    have hL := H.len
    have hI2 := hI
    obtain ⟨b0, b1, b2, k0, q0, q1, k1, k2⟩ := hI2
    obtain ⟨hd, hx, ht⟩ := drop_c (z := 0) hj
    refine r_iload (p := 15) rfl rfl rfl ?_
    refine r_aload_n (p := 16) rfl rfl rfl ?_
    refine r_cV (p := 19) rfl rfl (mkd_o b0 k0) (Nat.le_of_ble_eq_true rfl) rfl (s_X1_size hI ?_)
    rw [show f_X1_size F M x = nI l.length from H.1]
    refine r_icmp_ge (p := 22) rfl rfl (fun c1 => ?_) (fun c1 => ?_)
    · refine r_lload_n (p := 41) rfl rfl rfl ?_
      exact absurd c1 (nI_ge hd (by omega))
    · refine r_lload_n (p := 23) rfl rfl rfl ?_
      refine r_aload_n (p := 24) rfl rfl rfl ?_
      refine r_iload (p := 26) rfl rfl rfl ?_
      refine r_cV (p := 29) rfl rfl (mkd_o b0 k0) (Nat.le_of_ble_eq_true rfl) rfl (s_X1_at hI H.s1 ?_)
      rw [H.at hd, hx]
      refine r_i2l (p := 30) rfl rfl ?_
      refine r_cS1 (p := 33) rfl rfl (Nat.le_of_ble_eq_true rfl) rfl (s_mx ?_)
      refine r_lstore_n (p := 34) rfl rfl rfl ?_
      refine r_iinc (v := (nI (j + 1))) (p := 37) rfl rfl (nI_1 j) rfl rfl ?_
      refine r_goto rfl ?_
      exact lp_X6_digestOfList hI H t (j + 1) _ ht hd hQ
set_option maxRecDepth 100000 in
theorem s_X6_digestOfList {d : Nat} {X : mX} {F : mF} {M : mM} {L : mL} {x : Nat} {l : List Int32} {h : Int64} {Q : Option Value → mW → Prop} (hI : mIL X x) (H : IL x l F M) (hQ : Q (some (.long (lsL h l))) (X, F, M, L)) : Cw (d + 2) 215 [.long h, .ref x] (X, F, M, L) Q := by
  have hI2 := hI
  obtain ⟨b0, b1, b2, k0, q0, q1, k1, k2⟩ := hI2
  refine Cw_in rfl rfl ?_
  refine r_lload_n (p := 1) rfl rfl rfl ?_
  refine r_aload_n (p := 2) rfl rfl rfl ?_
  refine r_cV (p := 5) rfl rfl (mkd_o b0 k0) (Nat.le_of_ble_eq_true rfl) rfl (s_X1_size hI ?_)
  rw [show f_X1_size F M x = nI l.length from H.1]
  refine r_i2l (p := 6) rfl rfl ?_
  refine r_cS1 (p := 9) rfl rfl (Nat.le_of_ble_eq_true rfl) rfl (s_mx ?_)
  refine r_lstore_n (p := 10) rfl rfl rfl ?_
  refine r_iconst (v := 0) (p := 11) rfl rfl rfl ?_
  refine r_istore (p := 13) rfl rfl rfl ?_
  exact lp_X6_digestOfList hI H l 0 _ rfl (Nat.zero_le _) hQ
set_option maxRecDepth 100000 in
theorem s_X6_digestOfGenerations {d : Nat} {Y : mY} {F : mF} {M : mM} {L : mL} {b : mBs} {h : Int64} {Q : Option Value → mW → Prop} (H : BC b Y F M) (hQ : Q (some (.long (dgG b.1 h))) (mXY Y, F, M, L)) : Cw (d + 3) 214 [.ref 0, .long h] (mXY Y, F, M, L) Q := by
  refine Cw_in rfl rfl ?_
  refine r_lload_n (p := 1) rfl rfl rfl ?_
  refine r_aload_n (p := 2) rfl rfl rfl ?_
  refine r_getR (p := 5) rfl rfl rfl rfl rfl ?_
  refine r_cV (p := 8) rfl rfl rfl (Nat.le_of_ble_eq_true rfl) rfl (s_X0_nursery  ?_)
  refine r_cS1 (p := 11) rfl rfl (Nat.le_of_ble_eq_true rfl) rfl (s_X6_digestOfList (mIL_9 Y) H.1.2.2.2.2.2.2.1 ?_)
  refine r_lstore_n (p := 12) rfl rfl rfl ?_
  refine r_lload_n (p := 13) rfl rfl rfl ?_
  refine r_aload_n (p := 14) rfl rfl rfl ?_
  refine r_getR (p := 17) rfl rfl rfl rfl rfl ?_
  refine r_cV (p := 20) rfl rfl rfl (Nat.le_of_ble_eq_true rfl) rfl (s_X4_wordsYoung ?_)
  rw [show f_X4_wordsYoung F M = wds (sG b.1) (sN b.1) 1 from H.1.2.2.2.2.2.2.2.2.2.2.2.1.2.1]
  refine r_i2l (p := 21) rfl rfl ?_
  refine r_cS1 (p := 24) rfl rfl (Nat.le_of_ble_eq_true rfl) rfl (s_mx ?_)
  refine r_lstore_n (p := 25) rfl rfl rfl ?_
  refine r_lload_n (p := 26) rfl rfl rfl ?_
  refine r_aload_n (p := 27) rfl rfl rfl ?_
  refine r_getR (p := 30) rfl rfl rfl rfl rfl ?_
  refine r_cV (p := 33) rfl rfl rfl (Nat.le_of_ble_eq_true rfl) rfl (s_X4_oldObjects ?_)
  rw [show f_X4_oldObjects F M = cnt (sG b.1) 2 from H.1.2.2.2.2.2.2.2.2.2.2.2.1.2.2.2]
  refine r_i2l (p := 34) rfl rfl ?_
  refine r_cS1 (p := 37) rfl rfl (Nat.le_of_ble_eq_true rfl) rfl (s_mx ?_)
  refine r_lstore_n (p := 38) rfl rfl rfl ?_
  refine r_lload_n (p := 39) rfl rfl rfl ?_
  refine r_aload_n (p := 40) rfl rfl rfl ?_
  refine r_getR (p := 43) rfl rfl rfl rfl rfl ?_
  refine r_cV (p := 46) rfl rfl rfl (Nat.le_of_ble_eq_true rfl) rfl (s_X4_wordsOld ?_)
  rw [show f_X4_wordsOld F M = wds (sG b.1) (sN b.1) 2 from H.1.2.2.2.2.2.2.2.2.2.2.2.1.2.2.1]
  refine r_i2l (p := 47) rfl rfl ?_
  refine r_cS1 (p := 50) rfl rfl (Nat.le_of_ble_eq_true rfl) rfl (s_mx ?_)
  refine r_lstore_n (p := 51) rfl rfl rfl ?_
  refine r_lload_n (p := 52) rfl rfl rfl ?_
  refine r_aload_n (p := 53) rfl rfl rfl ?_
  refine r_getR (p := 56) rfl rfl rfl rfl rfl ?_
  refine r_cV (p := 59) rfl rfl rfl (Nat.le_of_ble_eq_true rfl) rfl (s_X0_rememberedSet  ?_)
  refine r_cS1 (p := 62) rfl rfl (Nat.le_of_ble_eq_true rfl) rfl (s_X6_digestOfList (mIL_12 Y) H.1.2.2.2.2.2.2.2.1 ?_)
  exact r_lreturn rfl hQ
theorem hc_eq {s : mSt} {F : mF} {M : mM} (H : RC s F M) {v : Int32} : f_X2_hasColour F M v = if ¬ sPh s = 0 ∧ oldP s v then 1 else 0 := by
  unfold f_X2_hasColour
  rw [H.old, H.2.2.2.2.2.2.2.2.2.2.2.2.1.1]
  by_cases h1 : sPh s = 0
  · rw [if_pos h1, if_neg (fun q => q.1 h1)]
  · rw [if_neg h1]
    by_cases h2 : oldP s v
    · rw [if_pos h2, if_neg (by decide), if_pos ⟨h1, h2⟩]
    · rw [if_neg h2, if_pos rfl, if_neg (fun q => h2 q.2)]
set_option maxRecDepth 100000 in
theorem lp_X6_digestOfObject {d : Nat} {Y : mY} {F : mF} {M : mM} {L : mL} {b : mBs} {i : Int32} {k : Nat} {h0 : Int64} {Q : Option Value → mW → Prop} (H : BC b Y F M) (hI : Inv b.1) (hv : liveP b.1 i) (hk : k ≤ 4) (hn : sN b.1 i = nI k) :
    ∀ (n j : Nat) (h : Int64), j + n = k → Q (some (.long ((((seqI n j).map (fun j => sR b.1 (4 * i + j))) ++ (if sG b.1 i = 2 ∧ ¬ sPh b.1 = 0 then [sC b.1 i] else [])).foldl mx h))) (mXY Y, F, M, L) → Wp (d + 2) tX6_digestOfObject 66 [some (.ref 0), some (.long h0), none, some (.int i), some (.long h), none, some (.int (nI j))] [] (mXY Y, F, M, L) Q
  | 0, j, h, hj, hQ => by
    have hph := H.1.2.2.2.2.2.2.2.2.2.2.2.2.1.1
    refine r_iload (p := 68) rfl rfl rfl ?_
    refine r_aload_n (p := 69) rfl rfl rfl ?_
    refine r_getR (p := 72) rfl rfl rfl rfl rfl ?_
    refine r_iload_n (p := 73) rfl rfl rfl ?_
    refine r_cV (p := 76) rfl rfl rfl (Nat.le_of_ble_eq_true rfl) rfl (s_X4_fieldsOf ?_)
    rw [H.1.fc hv.1, hn]
    refine r_icmp_ge (p := 79) rfl rfl (fun c1 => ?_) (fun c1 => ?_)
    · refine r_aload_n (p := 104) rfl rfl rfl ?_
      refine r_getR (p := 107) rfl rfl rfl rfl rfl ?_
      refine r_iload_n (p := 108) rfl rfl rfl ?_
      refine r_cV (p := 111) rfl rfl rfl (Nat.le_of_ble_eq_true rfl) rfl (s_X2_hasColour ?_)
      rw [hc_eq H.1]
      refine r_if_eq (p := 114) rfl rfl (fun c2 => ?_) (fun c2 => ?_)
      · refine r_lload (p := 133) rfl rfl rfl ?_
        have hq : ¬ (sG b.1 i = 2 ∧ ¬ sPh b.1 = 0) := fun q => absurd c2 (by rw [if_pos ⟨q.2, hv.1, q.1⟩]; decide)
        rw [if_neg hq] at hQ
        exact r_lreturn rfl hQ
      · have hq2 : ¬ sPh b.1 = 0 ∧ oldP b.1 i := Classical.byContradiction fun q => c2 (if_neg q)
        have h0 := hq2.1
        have ho := hq2.2
        refine r_lload (p := 116) rfl rfl rfl ?_
        refine r_aload_n (p := 117) rfl rfl rfl ?_
        refine r_getR (p := 120) rfl rfl rfl rfl rfl ?_
        refine r_iload_n (p := 121) rfl rfl rfl ?_
        refine r_cV (p := 124) rfl rfl rfl (Nat.le_of_ble_eq_true rfl) rfl (s_X4_colourOf ?_)
        rw [show f_X4_colourOf F M i = sC b.1 i from by unfold f_X4_colourOf; rw [if_neg hv.1.1, if_neg hv.1.2]; exact H.1.2.2.2.1 i hv.1 ho.2 h0]
        refine r_i2l (p := 125) rfl rfl ?_
        refine r_cS1 (p := 128) rfl rfl (Nat.le_of_ble_eq_true rfl) rfl (s_mx ?_)
        refine r_goto rfl ?_
        have hq : sG b.1 i = 2 ∧ ¬ sPh b.1 = 0 := ⟨ho.2, h0⟩
        rw [if_pos hq] at hQ
        exact r_lreturn rfl hQ
    · exact absurd (nI_le (a := k) (b := j) (by omega) (by omega)) c1
  | n + 1, j, h, hj, hQ => by
    have hx := nI_x (j := j) (k := k) (by omega) (by omega) hk
    refine r_iload (p := 68) rfl rfl rfl ?_
    refine r_aload_n (p := 69) rfl rfl rfl ?_
    refine r_getR (p := 72) rfl rfl rfl rfl rfl ?_
    refine r_iload_n (p := 73) rfl rfl rfl ?_
    refine r_cV (p := 76) rfl rfl rfl (Nat.le_of_ble_eq_true rfl) rfl (s_X4_fieldsOf ?_)
    rw [H.1.fc hv.1, hn]
    refine r_icmp_ge (p := 79) rfl rfl (fun c1 => ?_) (fun c1 => ?_)
    · exact absurd c1 (nI_ge (a := j) (b := k) (by omega) (by omega))
    · refine r_lload (p := 81) rfl rfl rfl ?_
      refine r_aload_n (p := 82) rfl rfl rfl ?_
      refine r_getR (p := 85) rfl rfl rfl rfl rfl ?_
      refine r_iload_n (p := 86) rfl rfl rfl ?_
      refine r_iload (p := 88) rfl rfl rfl ?_
      refine r_cV (p := 91) rfl rfl rfl (Nat.le_of_ble_eq_true rfl) rfl (s_X4_fieldOf ?_)
      rw [H.1.fld hv hx.1 hx.2.1 (by rw [hn]; exact hx.2.2)]
      refine r_i2l (p := 92) rfl rfl ?_
      refine r_cS1 (p := 95) rfl rfl (Nat.le_of_ble_eq_true rfl) rfl (s_mx ?_)
      refine r_lstore (p := 97) rfl rfl rfl ?_
      refine r_iinc (v := (nI (j + 1))) (p := 100) rfl rfl (nI_1 j) rfl rfl ?_
      refine r_goto rfl ?_
      exact lp_X6_digestOfObject H hI hv hk hn n (j + 1) _ (by omega) hQ
set_option maxRecDepth 100000 in
theorem s_X6_digestOfObject {d : Nat} {Y : mY} {F : mF} {M : mM} {L : mL} {b : mBs} {i : Int32} {h : Int64} {Q : Option Value → mW → Prop} (H : BC b Y F M) (hI : Inv b.1) (hv : liveP b.1 i) (hQ : Q (some (.long ((obL b.1 i).foldl mx h))) (mXY Y, F, M, L)) : Cw (d + 3) 216 [.ref 0, .long h, .int i] (mXY Y, F, M, L) Q := by
  obtain ⟨k, hk, hn⟩ := hI.2.2.1 _ hv.1
  have e : obL b.1 i = [i, (if sG b.1 i = 2 then 1 else 0), sA b.1 i, nI k] ++ (((seqI k 0).map (fun j => sR b.1 (4 * i + j))) ++ (if sG b.1 i = 2 ∧ ¬ sPh b.1 = 0 then [sC b.1 i] else [])) := by
    unfold obL flds
    rw [hn, nI_clamp (by omega), List.append_assoc]
  rw [e, List.foldl_append] at hQ
  refine Cw_in rfl rfl ?_
  refine r_lload_n (p := 1) rfl rfl rfl ?_
  refine r_iload_n (p := 2) rfl rfl rfl ?_
  refine r_i2l (p := 3) rfl rfl ?_
  refine r_cS1 (p := 6) rfl rfl (Nat.le_of_ble_eq_true rfl) rfl (s_mx ?_)
  refine r_lstore (p := 8) rfl rfl rfl ?_
  refine r_lload (p := 10) rfl rfl rfl ?_
  refine r_aload_n (p := 11) rfl rfl rfl ?_
  refine r_getR (p := 14) rfl rfl rfl rfl rfl ?_
  refine r_iload_n (p := 15) rfl rfl rfl ?_
  refine r_cV (p := 18) rfl rfl rfl (Nat.le_of_ble_eq_true rfl) rfl (s_X4_inOldGeneration ?_)
  rw [H.1.old]
  refine r_if_eq (p := 21) rfl rfl (fun c1 => ?_) (fun c1 => ?_)
  · refine r_lconst (v := 0) (p := 26) rfl rfl rfl ?_
    have hg : ¬ sG b.1 i = 2 := fun q => absurd c1 (by rw [if_pos ⟨hv.1, q⟩]; decide)
    rw [if_neg hg] at hQ
    refine r_cS1 (p := 29) rfl rfl (Nat.le_of_ble_eq_true rfl) rfl (s_mx (v := 0) ?_)
    refine r_lstore (p := 31) rfl rfl rfl ?_
    refine r_lload (p := 33) rfl rfl rfl ?_
    refine r_aload_n (p := 34) rfl rfl rfl ?_
    refine r_getR (p := 37) rfl rfl rfl rfl rfl ?_
    refine r_iload_n (p := 38) rfl rfl rfl ?_
    refine r_cV (p := 41) rfl rfl rfl (Nat.le_of_ble_eq_true rfl) rfl (s_X4_ageOf ?_)
    rw [H.1.ag hv.1]
    refine r_i2l (p := 42) rfl rfl ?_
    refine r_cS1 (p := 45) rfl rfl (Nat.le_of_ble_eq_true rfl) rfl (s_mx ?_)
    refine r_lstore (p := 47) rfl rfl rfl ?_
    refine r_lload (p := 49) rfl rfl rfl ?_
    refine r_aload_n (p := 50) rfl rfl rfl ?_
    refine r_getR (p := 53) rfl rfl rfl rfl rfl ?_
    refine r_iload_n (p := 54) rfl rfl rfl ?_
    refine r_cV (p := 57) rfl rfl rfl (Nat.le_of_ble_eq_true rfl) rfl (s_X4_fieldsOf ?_)
    rw [H.1.fc hv.1, hn]
    refine r_i2l (p := 58) rfl rfl ?_
    refine r_cS1 (p := 61) rfl rfl (Nat.le_of_ble_eq_true rfl) rfl (s_mx ?_)
    refine r_lstore (p := 63) rfl rfl rfl ?_
    refine r_iconst (v := 0) (p := 64) rfl rfl rfl ?_
    refine r_istore (p := 66) rfl rfl rfl ?_
    exact lp_X6_digestOfObject H hI hv hk hn k 0 _ (by omega) hQ
  · refine r_lconst (v := 1) (p := 22) rfl rfl rfl ?_
    refine r_goto rfl ?_
    have hg : sG b.1 i = 2 := (Classical.byContradiction fun q => c1 (if_neg q) : oldP b.1 i).2
    rw [if_pos hg] at hQ
    refine r_cS1 (p := 29) rfl rfl (Nat.le_of_ble_eq_true rfl) rfl (s_mx (v := 1) ?_)
    refine r_lstore (p := 31) rfl rfl rfl ?_
    refine r_lload (p := 33) rfl rfl rfl ?_
    refine r_aload_n (p := 34) rfl rfl rfl ?_
    refine r_getR (p := 37) rfl rfl rfl rfl rfl ?_
    refine r_iload_n (p := 38) rfl rfl rfl ?_
    refine r_cV (p := 41) rfl rfl rfl (Nat.le_of_ble_eq_true rfl) rfl (s_X4_ageOf ?_)
    rw [H.1.ag hv.1]
    refine r_i2l (p := 42) rfl rfl ?_
    refine r_cS1 (p := 45) rfl rfl (Nat.le_of_ble_eq_true rfl) rfl (s_mx ?_)
    refine r_lstore (p := 47) rfl rfl rfl ?_
    refine r_lload (p := 49) rfl rfl rfl ?_
    refine r_aload_n (p := 50) rfl rfl rfl ?_
    refine r_getR (p := 53) rfl rfl rfl rfl rfl ?_
    refine r_iload_n (p := 54) rfl rfl rfl ?_
    refine r_cV (p := 57) rfl rfl rfl (Nat.le_of_ble_eq_true rfl) rfl (s_X4_fieldsOf ?_)
    rw [H.1.fc hv.1, hn]
    refine r_i2l (p := 58) rfl rfl ?_
    refine r_cS1 (p := 61) rfl rfl (Nat.le_of_ble_eq_true rfl) rfl (s_mx ?_)
    refine r_lstore (p := 63) rfl rfl rfl ?_
    refine r_iconst (v := 0) (p := 64) rfl rfl rfl ?_
    refine r_istore (p := 66) rfl rfl rfl ?_
    exact lp_X6_digestOfObject H hI hv hk hn k 0 _ (by omega) hQ
set_option maxRecDepth 100000 in
theorem lp_X6_digest {d : Nat} {Y : mY} {F : mF} {M : mM} {L : mL} {b : mBs} {Q : Option Value → mW → Prop} (H : BC b Y F M) (hI : Inv b.1) :
    ∀ (n j : Nat) (h : Int64), j + n = 100 → (∀ F' M', RC b.1 F' M' → frC F M F' M' → Q (some (.long (mx ((seqI n j).foldl (ob b.1) h) (nI (rcc b.1).length)))) (mXY Y, F', M', L)) → Wp (d + 3) tX6_digest 16 [some (.ref 0), some (.long h), none, some (.int (nI j))] [] (mXY Y, F, M, L) Q
  | 0, j, h, hj, hQ => by
    refine r_iload_n (p := 17) rfl rfl rfl ?_
    refine r_bipush (v := 100) (p := 19) rfl rfl rfl ?_
    refine r_icmp_ge (p := 22) rfl rfl (fun c1 => ?_) (fun c1 => ?_)
    · refine r_lload_n (p := 47) rfl rfl rfl ?_
      refine r_aload_n (p := 48) rfl rfl rfl ?_
      refine r_getR (p := 51) rfl rfl rfl rfl rfl ?_
      refine r_cV (p := 54) rfl rfl rfl (Nat.le_of_ble_eq_true rfl) rfl (s_X0_countReachable H.1 hI (fun F1 M1 R1 f1 => ?_))
      refine r_i2l (p := 55) rfl rfl ?_
      refine r_cS1 (p := 58) rfl rfl (Nat.le_of_ble_eq_true rfl) rfl (s_mx ?_)
      exact r_lreturn rfl (hQ _ _ R1 f1)
    · exact absurd (nI_le (a := 100) (b := j) (by omega) (by omega)) c1
  | n + 1, j, h, hj, hQ => by
    have hin : inR (nI j) := inR_nI (by omega)
    refine r_iload_n (p := 17) rfl rfl rfl ?_
    refine r_bipush (v := 100) (p := 19) rfl rfl rfl ?_
    refine r_icmp_ge (p := 22) rfl rfl (fun c1 => ?_) (fun c1 => ?_)
    · exact absurd c1 (nI_ge (a := j) (b := 100) (by omega) (by omega))
    · refine r_aload_n (p := 23) rfl rfl rfl ?_
      refine r_getR (p := 26) rfl rfl rfl rfl rfl ?_
      refine r_iload_n (p := 27) rfl rfl rfl ?_
      refine r_cV (p := 30) rfl rfl rfl (Nat.le_of_ble_eq_true rfl) rfl (s_X4_isLive ?_)
      rw [H.1.live]
      refine r_if_eq (p := 33) rfl rfl (fun c2 => ?_) (fun c2 => ?_)
      · refine r_iinc (v := (nI (j + 1))) (p := 43) rfl rfl (nI_1 j) rfl rfl ?_
        refine r_goto rfl ?_
        have e : ob b.1 h (nI j) = h := if_pos (Classical.byContradiction fun q => absurd c2 (by rw [if_pos ⟨hin, q⟩]; decide))
        exact lp_X6_digest H hI n (j + 1) h (by omega) (fun F' M' R f => by have z := hQ F' M' R f; rw [seqI, List.foldl_cons, e] at z; exact z)
      · have hv : liveP b.1 (nI j) := Classical.byContradiction fun q => c2 (if_neg q)
        refine r_aload_n (p := 34) rfl rfl rfl ?_
        refine r_lload_n (p := 35) rfl rfl rfl ?_
        refine r_iload_n (p := 36) rfl rfl rfl ?_
        refine r_cV (p := 39) rfl rfl rfl (Nat.le_of_ble_eq_true rfl) rfl (s_X6_digestOfObject H hI hv ?_)
        refine r_lstore_n (p := 40) rfl rfl rfl ?_
        refine r_iinc (v := (nI (j + 1))) (p := 43) rfl rfl (nI_1 j) rfl rfl ?_
        refine r_goto rfl ?_
        have e : ob b.1 h (nI j) = (obL b.1 (nI j)).foldl mx h := if_neg hv.2
        exact lp_X6_digest H hI n (j + 1) _ (by omega) (fun F' M' R f => by have z := hQ F' M' R f; rw [seqI, List.foldl_cons, e] at z; exact z)
set_option maxRecDepth 100000 in
theorem cs_digest {b : mBs} (hI : Inv b.1) (ht : b.2.2.2.length ≤ 1000) : CS 4 203 [] b (.long (dgs b)) b := fun d Y F M L Q hY H hQ => by
  refine Cw_in rfl rfl ?_
  refine r_aload_n (p := 1) rfl rfl rfl ?_
  refine r_ldc2 (v := 18028) (p := 4) rfl rfl rfl ?_
  refine r_cV (p := 7) rfl rfl rfl (Nat.le_of_ble_eq_true rfl) rfl (s_X6_digestOfCounters H ht ?_)
  refine r_lstore_n (p := 8) rfl rfl rfl ?_
  refine r_aload_n (p := 9) rfl rfl rfl ?_
  refine r_lload_n (p := 10) rfl rfl rfl ?_
  refine r_cV (p := 13) rfl rfl rfl (Nat.le_of_ble_eq_true rfl) rfl (s_X6_digestOfGenerations H ?_)
  refine r_lstore_n (p := 14) rfl rfl rfl ?_
  refine r_iconst (v := 0) (p := 15) rfl rfl rfl ?_
  refine r_istore_n (p := 16) rfl rfl rfl ?_
  exact lp_X6_digest H hI 100 0 _ rfl (fun F' M' R f => hQ Y _ _ L (H.hp R f) f.c gr.rf)
