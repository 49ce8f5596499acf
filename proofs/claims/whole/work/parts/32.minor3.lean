set_option maxRecDepth 100000 in
theorem lp_X4_refersToYoung {d : Nat} {Y : mY} {L : mL} {s : mSt} {v : Int32} {k : Nat} {F : mF} {M : mM} {Q : Option Value → mW → Prop} (hk : k ≤ 4) (hn : sN s v = nI k) (hv : liveP s v) (H : RC s F M) :
    ∀ (n j : Nat), j + n = k → Q (some (.int (if ((seqI n j).map (fun j => sR s (4 * v + j))).any (fun x => decide (yngP s x)) = true then 1 else 0))) (mXY Y, F, M, L) → Wp (d + 1) tX4_refersToYoung 2 [some (.ref 2), some (.int v), some (.int (nI j))] [] (mXY Y, F, M, L) Q
  | 0, j, hj, hQ => by
    refine r_iload_n (p := 3) rfl rfl rfl ?_
    refine r_aload_n (p := 4) rfl rfl rfl ?_
    refine r_iload_n (p := 5) rfl rfl rfl ?_
    refine r_cV (p := 8) rfl rfl rfl (Nat.le_of_ble_eq_true rfl) rfl (s_X4_fieldsOf ?_)
    rw [H.fc hv.1, hn]
    refine r_icmp_ge (p := 11) rfl rfl (fun c1 => ?_) (fun c1 => ?_)
    · refine r_iconst (v := 0) (p := 33) rfl rfl rfl ?_
      refine r_ireturn rfl mok_0 ?_
      exact hQ
    · exact absurd (nI_le (a := k) (b := j) (by omega) (by omega)) c1
  | n + 1, j, hj, hQ => by
    have hx := nI_x (j := j) (k := k) (by omega) (by omega) hk
    rw [seqI, List.map_cons, List.any_cons] at hQ
    refine r_iload_n (p := 3) rfl rfl rfl ?_
    refine r_aload_n (p := 4) rfl rfl rfl ?_
    refine r_iload_n (p := 5) rfl rfl rfl ?_
    refine r_cV (p := 8) rfl rfl rfl (Nat.le_of_ble_eq_true rfl) rfl (s_X4_fieldsOf ?_)
    rw [H.fc hv.1, hn]
    refine r_icmp_ge (p := 11) rfl rfl (fun c1 => ?_) (fun c1 => ?_)
    · refine r_iconst (v := 0) (p := 33) rfl rfl rfl ?_
      exact absurd c1 (nI_ge (a := j) (b := k) (by omega) (by omega))
    · refine r_aload_n (p := 12) rfl rfl rfl ?_
      refine r_aload_n (p := 13) rfl rfl rfl ?_
      refine r_iload_n (p := 14) rfl rfl rfl ?_
      refine r_iload_n (p := 15) rfl rfl rfl ?_
      refine r_cV (p := 18) rfl rfl rfl (Nat.le_of_ble_eq_true rfl) rfl (s_X4_fieldOf ?_)
      rw [H.fld hv hx.1 hx.2.1 (by rw [hn]; exact hx.2.2)]
      refine r_cV (p := 21) rfl rfl rfl (Nat.le_of_ble_eq_true rfl) rfl (s_X4_inNursery ?_)
      rw [H.yng]
      refine r_if_eq (p := 24) rfl rfl (fun c2 => ?_) (fun c2 => ?_)
      · refine r_iinc (v := nI (j + 1)) (p := 29) rfl rfl (nI_1 j) rfl rfl ?_
        refine r_goto rfl ?_
        have hy : ¬ yngP s (sR s (4 * v + nI j)) := fun q => absurd c2 (by rw [if_pos q]; decide)
        rw [decide_eq_false hy, Bool.false_or] at hQ
        exact lp_X4_refersToYoung hk hn hv H n (j + 1) (by omega) hQ
      · refine r_iconst (v := 1) (p := 25) rfl rfl rfl ?_
        have hy : yngP s (sR s (4 * v + nI j)) := Classical.byContradiction fun q => c2 (if_neg q)
        rw [decide_eq_true hy] at hQ
        refine r_ireturn rfl mok_1 ?_
        exact hQ
set_option maxRecDepth 100000 in
theorem s_X4_refersToYoung {d : Nat} {Y : mY} {F : mF} {M : mM} {L : mL} {v : Int32} {s : mSt} {Q : Option Value → mW → Prop} (H : RC s F M) (hI : ∃ n, n ≤ 4 ∧ sN s v = nI n) (hv : liveP s v) (hQ : Q (some (.int (if hasY s v = true then 1 else 0))) (mXY Y, F, M, L)) : Cw (d + 2) 99 [.ref 2, .int v] (mXY Y, F, M, L) Q := by
  obtain ⟨k, hk, hn⟩ := hI
  refine Cw_in rfl rfl ?_
  refine r_iconst (v := 0) (p := 1) rfl rfl rfl ?_
  refine r_istore_n (p := 2) rfl rfl rfl ?_
  refine lp_X4_refersToYoung hk hn hv H k 0 (by omega) ?_
  unfold hasY flds at hQ
  rw [hn, nI_clamp (by omega)] at hQ
  exact hQ
set_option maxRecDepth 100000 in
theorem lp_X3_renewNursery {d : Nat} {Y : mY} {L : mL} {l : List Int32} {Q : Option Value → mW → Prop} :
    ∀ (t : List Int32) (j : Nat) (s : mSt) (F : mF) (M : mM) (z : Option Value), l.drop j = t → j ≤ l.length → RC s F M → IL 26 l F M → t.Nodup → (∀ x ∈ t, inR x ∧ x ∉ sNu s) → (∀ F' M', RC (wNu s (sNu s ++ t.filter (fun i => decide (sG s i = 1)))) F' M' → IL 26 l F' M' → frC F M F' M' → Q none (mXY Y, F', M', L)) → Wp (d + 1) tX3_renewNursery 14 [some (.ref 25), some (.ref 9), some (.int (nI j)), z] [] (mXY Y, F, M, L) Q
  | [], j, s, F, M, z, hj, hjl, H, hl, hn, hy, hQ => by
    have hd : l.length ≤ j := List.drop_eq_nil_iff.mp hj
    have hL := hl.len
    rw [List.filter_nil, List.append_nil] at hQ
    refine r_iload_n (p := 15) rfl rfl rfl ?_
    refine r_aload_n (p := 16) rfl rfl rfl ?_
    refine r_getR (p := 19) rfl rfl rfl rfl rfl ?_
    refine r_cV (p := 22) rfl rfl rfl (Nat.le_of_ble_eq_true rfl) rfl (s_X1_size (mIL_26 Y) ?_)
    rw [f_X1_size, hl.1]
    refine r_icmp_ge (p := 25) rfl rfl (fun c1 => ?_) (fun c1 => ?_)
    · refine r_return rfl ?_
      exact hQ F M H hl frC.rf
    · exact absurd (nI_le hd (by omega)) c1
  | x :: t, j, s, F, M, z, hj, hjl, H, hl, hn, hy, hQ => by
    have hL := hl.len
    have hN := H.2.2.2.2.2.2.1
    obtain ⟨hd, hx, ht⟩ := drop_c (z := 0) hj
    have hn2 := List.nodup_cons.mp hn
    have hv := hy x List.mem_cons_self
    refine r_iload_n (p := 15) rfl rfl rfl ?_
    refine r_aload_n (p := 16) rfl rfl rfl ?_
    refine r_getR (p := 19) rfl rfl rfl rfl rfl ?_
    refine r_cV (p := 22) rfl rfl rfl (Nat.le_of_ble_eq_true rfl) rfl (s_X1_size (mIL_26 Y) ?_)
    rw [f_X1_size, hl.1]
    refine r_icmp_ge (p := 25) rfl rfl (fun c1 => ?_) (fun c1 => ?_)
    · exact absurd c1 (nI_ge hd (by omega))
    · refine r_aload_n (p := 26) rfl rfl rfl ?_
      refine r_getR (p := 29) rfl rfl rfl rfl rfl ?_
      refine r_iload_n (p := 30) rfl rfl rfl ?_
      refine r_cV (p := 33) rfl rfl rfl (Nat.le_of_ble_eq_true rfl) rfl (s_X1_at (mIL_26 Y) hl.s1 ?_)
      rw [hl.at hd, hx]
      refine r_istore_n (p := 34) rfl rfl rfl ?_
      refine r_aload_n (p := 35) rfl rfl rfl ?_
      refine r_getR (p := 38) rfl rfl rfl rfl rfl ?_
      refine r_iload_n (p := 39) rfl rfl rfl ?_
      refine r_cV (p := 42) rfl rfl rfl (Nat.le_of_ble_eq_true rfl) rfl (s_X4_inNursery ?_)
      rw [H.yng]
      refine r_if_eq (p := 45) rfl rfl (fun c2 => ?_) (fun c2 => ?_)
      · refine r_iinc (v := nI (j + 1)) (p := 53) rfl rfl (nI_1 j) rfl rfl ?_
        refine r_goto rfl ?_
        have hg : ¬ sG s x = 1 := fun q => absurd c2 (by rw [if_pos ⟨hv.1, q⟩]; decide)
        rw [List.filter_cons_of_neg (by simpa using hg)] at hQ
        exact lp_X3_renewNursery t (j + 1) s F M _ ht hd H hl hn2.2 (fun y h1 => hy y (List.mem_cons_of_mem _ h1)) hQ
      · refine r_aload_n (p := 46) rfl rfl rfl ?_
        refine r_iload_n (p := 47) rfl rfl rfl ?_
        refine r_cV (p := 50) rfl rfl rfl (Nat.le_of_ble_eq_true rfl) rfl (s_X1_add (mIL_9 Y) hN.s0 ?_)
        have H0 := hN.add x
        refine r_iinc (v := nI (j + 1)) (p := 53) rfl rfl (nI_1 j) rfl rfl ?_
        refine r_goto rfl ?_
        have hg : sG s x = 1 := Classical.byContradiction fun q => c2 (if_neg fun z => q z.2)
        rw [List.filter_cons_of_pos (by simpa using hg)] at hQ
        rw [addL_no hv.1 hv.2] at H0
        have H1 := H.l9 H0.2 H0.1
        have e : sNu s ++ x :: t.filter (fun i => decide (sG s i = 1)) = (sNu s ++ [x]) ++ t.filter (fun i => decide (sG s i = 1)) := by simp
        rw [e] at hQ
        exact lp_X3_renewNursery t (j + 1) (wNu s (sNu s ++ [x])) _ _ _ ht hd H1 (hl.ext (H0.2.1 _ _ (by omega)) (fun i => H0.2.2 _ _ (by omega) (by omega)) (fun i => H0.2.2 _ _ (by omega) (by omega))) hn2.2 (fun y h1 => ⟨(hy y (List.mem_cons_of_mem _ h1)).1, fun q => by
          rcases List.mem_append.mp q with q | q
          · exact (hy y (List.mem_cons_of_mem _ h1)).2 q
          · exact hn2.1 ((List.mem_singleton.mp q) ▸ h1)⟩) (fun F' M' R I f => hQ F' M' R I ((H0.2.c (by omega) (by omega)).tr f))
set_option maxRecDepth 100000 in
theorem s_X3_renewNursery {d : Nat} {Y : mY} {F : mF} {M : mM} {L : mL} {s : mSt} {l : List Int32} {Q : Option Value → mW → Prop} (H : RC s F M) (hl : IL 26 l F M) (hQ : ∀ F' M', RC (rnN s l) F' M' → IL 26 l F' M' → frC F M F' M' → Q none (mXY Y, F', M', L)) : Cw (d + 2) 147 [.ref 25] (mXY Y, F, M, L) Q := by
  refine Cw_in rfl rfl ?_
  refine r_aload_n (p := 1) rfl rfl rfl ?_
  refine r_getR (p := 4) rfl rfl rfl rfl rfl ?_
  refine r_cV (p := 7) rfl rfl rfl (Nat.le_of_ble_eq_true rfl) rfl (s_X0_nursery  ?_)
  refine r_astore_n (p := 8) rfl rfl rfl ?_
  refine r_aload_n (p := 9) rfl rfl rfl ?_
  refine r_cV (p := 12) rfl rfl rfl (Nat.le_of_ble_eq_true rfl) rfl (s_X1_clear (mIL_9 Y) (fun F1 M1 R1 f1 => ?_))
  have H1 := H.l9 f1 R1
  refine r_iconst (v := 0) (p := 13) rfl rfl rfl ?_
  refine r_istore_n (p := 14) rfl rfl rfl ?_
  refine lp_X3_renewNursery l 0 (wNu s []) F1 M1 _ rfl (Nat.zero_le _) H1 (hl.ext (f1.1 _ _ (by omega)) (fun i => f1.2 _ _ (by omega) (by omega)) (fun i => f1.2 _ _ (by omega) (by omega))) hl.2.1 (fun x hx => ⟨hl.2.2.1 x hx, fun q => by cases q⟩) (fun F' M' R I f => hQ F' M' R I ((f1.c (by omega) (by omega)).tr f))
set_option maxRecDepth 100000 in
theorem lp_X3_renewR1 {d : Nat} {Y : mY} {L : mL} {l : List Int32} {Q : Option Value → mW → Prop} :
    ∀ (t : List Int32) (j : Nat) (s : mSt) (F : mF) (M : mM) (z : Option Value), l.drop j = t → j ≤ l.length → RC s F M → IL 26 l F M → t.Nodup → (∀ x ∈ t, inR x ∧ x ∉ sKn s) → (∀ F' M', RC (wKn s (sKn s ++ t.filter (fun i => decide (sG s i = 2)))) F' M' → IL 26 l F' M' → frC F M F' M' → ∀ l2 l3, Wp (d + 2) tX3_renewRememberedSet 52 [some (.ref 25), some (.ref 12), l2, l3] [] (mXY Y, F', M', L) Q) → Wp (d + 2) tX3_renewRememberedSet 10 [some (.ref 25), some (.ref 12), some (.int (nI j)), z] [] (mXY Y, F, M, L) Q
  | [], j, s, F, M, z, hj, hjl, H, hl, hn, hy, hQ => by
    have hd : l.length ≤ j := List.drop_eq_nil_iff.mp hj
    have hL := hl.len
    rw [List.filter_nil, List.append_nil] at hQ
    refine r_iload_n (p := 11) rfl rfl rfl ?_
    refine r_aload_n (p := 12) rfl rfl rfl ?_
    refine r_getR (p := 15) rfl rfl rfl rfl rfl ?_
    refine r_cV (p := 18) rfl rfl rfl (Nat.le_of_ble_eq_true rfl) rfl (s_X1_size (mIL_26 Y) ?_)
    rw [f_X1_size, hl.1]
    refine r_icmp_ge (p := 21) rfl rfl (fun c1 => ?_) (fun c1 => ?_)
    · exact hQ F M H hl frC.rf _ _
    · exact absurd (nI_le hd (by omega)) c1
  | x :: t, j, s, F, M, z, hj, hjl, H, hl, hn, hy, hQ => by
    have hL := hl.len
    have hN := H.2.2.2.2.2.2.2.1
    obtain ⟨hd, hx, ht⟩ := drop_c (z := 0) hj
    have hn2 := List.nodup_cons.mp hn
    have hv := hy x List.mem_cons_self
    refine r_iload_n (p := 11) rfl rfl rfl ?_
    refine r_aload_n (p := 12) rfl rfl rfl ?_
    refine r_getR (p := 15) rfl rfl rfl rfl rfl ?_
    refine r_cV (p := 18) rfl rfl rfl (Nat.le_of_ble_eq_true rfl) rfl (s_X1_size (mIL_26 Y) ?_)
    rw [f_X1_size, hl.1]
    refine r_icmp_ge (p := 21) rfl rfl (fun c1 => ?_) (fun c1 => ?_)
    · exact absurd c1 (nI_ge hd (by omega))
    · refine r_aload_n (p := 22) rfl rfl rfl ?_
      refine r_getR (p := 25) rfl rfl rfl rfl rfl ?_
      refine r_iload_n (p := 26) rfl rfl rfl ?_
      refine r_cV (p := 29) rfl rfl rfl (Nat.le_of_ble_eq_true rfl) rfl (s_X1_at (mIL_26 Y) hl.s1 ?_)
      rw [hl.at hd, hx]
      refine r_istore_n (p := 30) rfl rfl rfl ?_
      refine r_aload_n (p := 31) rfl rfl rfl ?_
      refine r_getR (p := 34) rfl rfl rfl rfl rfl ?_
      refine r_iload_n (p := 35) rfl rfl rfl ?_
      refine r_cV (p := 38) rfl rfl rfl (Nat.le_of_ble_eq_true rfl) rfl (s_X4_inOldGeneration ?_)
      rw [H.old]
      refine r_if_eq (p := 41) rfl rfl (fun c2 => ?_) (fun c2 => ?_)
      · refine r_iinc (v := nI (j + 1)) (p := 49) rfl rfl (nI_1 j) rfl rfl ?_
        refine r_goto rfl ?_
        have hg : ¬ sG s x = 2 := fun q => absurd c2 (by rw [if_pos ⟨hv.1, q⟩]; decide)
        rw [List.filter_cons_of_neg (by simpa using hg)] at hQ
        exact lp_X3_renewR1 t (j + 1) s F M _ ht hd H hl hn2.2 (fun y h1 => hy y (List.mem_cons_of_mem _ h1)) hQ
      · refine r_aload_n (p := 42) rfl rfl rfl ?_
        refine r_iload_n (p := 43) rfl rfl rfl ?_
        refine r_cV (p := 46) rfl rfl rfl (Nat.le_of_ble_eq_true rfl) rfl (s_X1_add (mIL_12 Y) hN.s0 ?_)
        have H0 := hN.add x
        refine r_iinc (v := nI (j + 1)) (p := 49) rfl rfl (nI_1 j) rfl rfl ?_
        refine r_goto rfl ?_
        have hg : sG s x = 2 := Classical.byContradiction fun q => c2 (if_neg fun z => q z.2)
        rw [List.filter_cons_of_pos (by simpa using hg)] at hQ
        rw [addL_no hv.1 hv.2] at H0
        have H1 := H.l12 H0.2 H0.1
        have e : sKn s ++ x :: t.filter (fun i => decide (sG s i = 2)) = (sKn s ++ [x]) ++ t.filter (fun i => decide (sG s i = 2)) := by simp
        rw [e] at hQ
        exact lp_X3_renewR1 t (j + 1) (wKn s (sKn s ++ [x])) _ _ _ ht hd H1 (hl.ext (H0.2.1 _ _ (by omega)) (fun i => H0.2.2 _ _ (by omega) (by omega)) (fun i => H0.2.2 _ _ (by omega) (by omega))) hn2.2 (fun y h1 => ⟨(hy y (List.mem_cons_of_mem _ h1)).1, fun q => by
          rcases List.mem_append.mp q with q | q
          · exact (hy y (List.mem_cons_of_mem _ h1)).2 q
          · exact hn2.1 ((List.mem_singleton.mp q) ▸ h1)⟩) (fun F' M' R I f => hQ F' M' R I ((H0.2.c (by omega) (by omega)).tr f))
theorem flt_mid {x : Int32} {q u : List Int32} (hn : (q ++ x :: u).Nodup) : flt x (q ++ x :: u) = q ++ u := by
  have h := List.nodup_append.mp hn
  have hu := List.nodup_cons.mp h.2.1
  have hq : x ∉ q := fun z => h.2.2 x z x List.mem_cons_self rfl
  unfold flt
  rw [List.filter_append, List.filter_cons_of_neg (by simp)]
  have e1 := flt_no hq
  have e2 := flt_no hu.1
  unfold flt at e1 e2
  rw [e1, e2]
theorem nI_m1 (n : Nat) : nI n + Int32.ofInt (-1) = nI n - 1 := by
  rw [Int32.sub_eq_add_neg, show Int32.ofInt (-1) = -1 by decide]
theorem getD_mid {x : Int32} {q u : List Int32} : (q ++ x :: u).getD q.length 0 = x := by
  rw [List.getD_eq_getElem?_getD, List.getElem?_append_right (Nat.le_refl _)]
  simp
set_option maxRecDepth 100000 in
theorem lp_X3_renewR2 {d : Nat} {Y : mY} {L : mL} {Q : Option Value → mW → Prop} :
    ∀ (n : Nat) (q u : List Int32) (s : mSt) (F : mF) (M : mM) (z : Option Value), q.length = n → RC s F M → InvW s → sKn s = q ++ u → (∀ F' M', RC (wKn s (q.filter (hasY s) ++ u)) F' M' → frC F M F' M' → Q none (mXY Y, F', M', L)) → Wp (d + 2) tX3_renewRememberedSet 59 [some (.ref 25), some (.ref 12), some (.int (nI n - 1)), z] [] (mXY Y, F, M, L) Q
  | 0, q, u, s, F, M, z, hq, H, hI, hk, hQ => by
    have e : q = [] := List.eq_nil_of_length_eq_zero hq
    subst e
    refine r_iload_n (p := 60) rfl rfl rfl ?_
    refine r_if_lt (p := 63) rfl rfl (fun c1 => ?_) (fun c1 => ?_)
    · refine r_return rfl ?_
      have e2 : RC (wKn s (([] : List Int32).filter (hasY s) ++ u)) F M := by
        have : ([] : List Int32).filter (hasY s) ++ u = sKn s := hk.symm
        rw [this]
        exact H
      exact hQ F M e2 frC.rf
    · exact absurd (by decide) c1
  | n + 1, q, u, s, F, M, z, hq, H, hI, hk, hQ => by
    have hN := H.2.2.2.2.2.2.2.1
    have hL := hN.len
    obtain ⟨q0, x, rfl⟩ : ∃ q0 x, q = q0 ++ [x] := by
      have hne : q ≠ [] := fun e => by rw [e] at hq; cases hq
      exact ⟨q.dropLast, q.getLast hne, (List.dropLast_concat_getLast hne).symm⟩
    have hq0 : q0.length = n := by simpa using hq
    have hk2 : sKn s = q0 ++ x :: u := by rw [hk]; simp
    have hln : n < (sKn s).length := by rw [hk2]; simp; omega
    have hgx : (sKn s).getD n 0 = x := by rw [hk2, ← hq0]; exact getD_mid
    have hx := hI.2.2.2.2.2.2.1.2 x (by rw [hk2]; simp)
    have hlv : liveP s x := ⟨hx.1, by rw [hx.2]; decide⟩
    rw [nI_pred]
    refine r_iload_n (p := 60) rfl rfl rfl ?_
    refine r_if_lt (p := 63) rfl rfl (fun c1 => ?_) (fun c1 => ?_)
    · exact absurd c1 (nI_pos (by omega))
    · refine r_aload_n (p := 64) rfl rfl rfl ?_
      refine r_iload_n (p := 65) rfl rfl rfl ?_
      refine r_cV (p := 68) rfl rfl rfl (Nat.le_of_ble_eq_true rfl) rfl (s_X1_at (mIL_12 Y) hN.s1 ?_)
      rw [hN.at hln, hgx]
      refine r_istore_n (p := 69) rfl rfl rfl ?_
      refine r_aload_n (p := 70) rfl rfl rfl ?_
      refine r_getR (p := 73) rfl rfl rfl rfl rfl ?_
      refine r_iload_n (p := 74) rfl rfl rfl ?_
      refine r_cV (p := 77) rfl rfl rfl (Nat.le_of_ble_eq_true rfl) rfl (s_X4_refersToYoung H (hI.2.2.1 x hx.1) hlv ?_)
      refine r_if_ne (p := 80) rfl rfl (fun c2 => ?_) (fun c2 => ?_)
      · refine r_iinc (v := (nI n - 1)) (p := 88) rfl rfl (nI_m1 n) rfl rfl ?_
        refine r_goto rfl ?_
        have hh : hasY s x = true := Classical.byContradiction fun q => c2 (if_neg q)
        exact lp_X3_renewR2 n q0 (x :: u) s F M _ hq0 H hI hk2 (fun F' M' R f => hQ F' M' (by rw [List.filter_append, List.filter_cons_of_pos hh]; simpa using R) f)
      · refine r_aload_n (p := 81) rfl rfl rfl ?_
        refine r_iload_n (p := 82) rfl rfl rfl ?_
        refine r_cV (p := 85) rfl rfl rfl (Nat.le_of_ble_eq_true rfl) rfl (s_X1_drop (mIL_12 Y) hN (fun F1 M1 R1 f1 => ?_))
        refine r_iinc (v := (nI n - 1)) (p := 88) rfl rfl (nI_m1 n) rfl rfl ?_
        refine r_goto rfl ?_
        have hh : ¬ hasY s x = true := fun q => absurd c2 (by rw [if_pos q]; decide)
        have hnd : (q0 ++ x :: u).Nodup := by rw [← hk2]; exact hI.2.2.2.2.2.2.1.1
        rw [hk2, flt_mid hnd] at R1
        have H1 := H.l12 f1 R1
        exact lp_X3_renewR2 n q0 u (wKn s (q0 ++ u)) F1 M1 _ hq0 H1 ⟨hI.1, hI.2.1, hI.2.2.1, hI.2.2.2.1, hI.2.2.2.2.1, hI.2.2.2.2.2.1, ⟨R1.2.1, fun i hi => hI.2.2.2.2.2.2.1.2 i (by rw [hk2]; rcases List.mem_append.mp hi with q | q <;> simp [q])⟩, hI.2.2.2.2.2.2.2⟩ rfl (fun F' M' R f => hQ F' M' (by rw [List.filter_append, List.filter_cons_of_neg (by simpa using hh), List.filter_nil, List.append_nil]; exact R) ((f1.c (by omega) (by omega)).tr f))
set_option maxRecDepth 100000 in
theorem s_X3_renewRememberedSet {d : Nat} {Y : mY} {F : mF} {M : mM} {L : mL} {s : mSt} {l : List Int32} {Q : Option Value → mW → Prop} (H : RC s F M) (hI : InvW s) (hl : IL 26 l F M) (hk : ∀ x ∈ l, x ∉ sKn s) (hQ : ∀ F' M', RC (rnK s l) F' M' → frC F M F' M' → Q none (mXY Y, F', M', L)) : Cw (d + 3) 148 [.ref 25] (mXY Y, F, M, L) Q := by
  refine Cw_in rfl rfl ?_
  refine r_aload_n (p := 1) rfl rfl rfl ?_
  refine r_getR (p := 4) rfl rfl rfl rfl rfl ?_
  refine r_cV (p := 7) rfl rfl rfl (Nat.le_of_ble_eq_true rfl) rfl (s_X0_rememberedSet  ?_)
  refine r_astore_n (p := 8) rfl rfl rfl ?_
  refine r_iconst (v := 0) (p := 9) rfl rfl rfl ?_
  refine r_istore_n (p := 10) rfl rfl rfl ?_
  refine lp_X3_renewR1 l 0 s F M _ rfl (Nat.zero_le _) H hl hl.2.1 (fun x hx => ⟨hl.2.2.1 x hx, hk x hx⟩) (fun F1 M1 H1 I1 f1 l2 l3 => ?_)
  have hN := H1.2.2.2.2.2.2.2.1
  refine r_aload_n (p := 53) rfl rfl rfl ?_
  refine r_cV (p := 56) rfl rfl rfl (Nat.le_of_ble_eq_true rfl) rfl (s_X1_size (mIL_12 Y) ?_)
  rw [f_X1_size, hN.1]
  refine r_iconst (v := 1) (p := 57) rfl rfl rfl ?_
  refine r_isub (p := 58) rfl rfl ?_
  refine r_istore_n (p := 59) rfl rfl rfl ?_
  refine lp_X3_renewR2 _ (sKn s ++ l.filter (fun i => decide (sG s i = 2))) [] (wKn s (sKn s ++ l.filter (fun i => decide (sG s i = 2)))) F1 M1 _ rfl H1 ⟨hI.1, hI.2.1, hI.2.2.1, hI.2.2.2.1, hI.2.2.2.2.1, hI.2.2.2.2.2.1, ⟨hN.2.1, fun i hi => ?_⟩, hI.2.2.2.2.2.2.2⟩ (by simp) (fun F' M' R f => hQ F' M' (by rw [List.append_nil] at R; exact R) (f1.tr f))
  rcases List.mem_append.mp hi with q | q
  · exact hI.2.2.2.2.2.2.1.2 i q
  · have q := List.mem_filter.mp q
    exact ⟨hl.2.2.1 i q.1, of_decide_eq_true q.2⟩
set_option maxRecDepth 100000 in
theorem s_X3_collect {d : Nat} {Y : mY} {F : mF} {M : mM} {L : mL} {s : mSt} {Q : Option Value → mW → Prop} (H : RC s F M) (hI : Inv s) (hQ : ∀ F' M', RC (minr s).2 F' M' → frC F M F' M' → Q (some (.int (minr s).1)) (mXY Y, F', M', L)) : Cw (d + 5) 140 [.ref 25] (mXY Y, F, M, L) Q := by
  have hnu := hI.2.2.2.2.2.1
  have a := age_all trc_nd (fun x hx => trc_y x hx) hI.w
  have b1 : (sNu ((trc s).foldl agS s)).Nodup := by rw [a.2.1.2.2.2.1]; exact hnu.1
  have b2 : ∀ x ∈ sNu ((trc s).foldl agS s), x ∉ trc s → yngP ((trc s).foldl agS s) x := fun x hx hl => by
    rw [a.2.1.2.2.2.1] at hx
    have := (hnu.2 x).mp hx
    exact ⟨this.1, by rw [a.2.2.1 x hl]; exact this.2⟩
  have b := fre_all (l := trc s) (t := sNu ((trc s).foldl agS s)) (s := (trc s).foldl agS s) (n := 0) b1 b2 a.1
  refine Cw_in rfl rfl ?_
  refine r_aload_n (p := 1) rfl rfl rfl ?_
  refine r_cV (p := 4) rfl rfl rfl (Nat.le_of_ble_eq_true rfl) rfl (s_X3_traceSurvivors H hI (fun F1 M1 R1 I1 f1 => ?_))
  refine r_aload_n (p := 5) rfl rfl rfl ?_
  refine r_cV (p := 8) rfl rfl rfl (Nat.le_of_ble_eq_true rfl) rfl (s_X3_ageSurvivors R1 hI.w I1 (fun x hx => trc_y x hx) (fun F2 M2 R2 I2 f2 => ?_))
  refine r_aload_n (p := 9) rfl rfl rfl ?_
  refine r_cV (p := 12) rfl rfl rfl (Nat.le_of_ble_eq_true rfl) rfl (s_X3_freeOthers R2 I2 b1 b2 (fun F3 M3 R3 I3 f3 => ?_))
  refine r_istore_n (p := 13) rfl rfl rfl ?_
  refine r_aload_n (p := 14) rfl rfl rfl ?_
  refine r_cV (p := 17) rfl rfl rfl (Nat.le_of_ble_eq_true rfl) rfl (s_X3_renewNursery R3 I3 (fun F4 M4 R4 I4 f4 => ?_))
  refine r_aload_n (p := 18) rfl rfl rfl ?_
  refine r_cV (p := 21) rfl rfl rfl (Nat.le_of_ble_eq_true rfl) rfl (s_X3_renewRememberedSet R4 ⟨b.1.1, b.1.2.1, b.1.2.2.1, b.1.2.2.2.1, b.1.2.2.2.2.1, ⟨trc_nd.filter _, fun i hi => (trc_y i (List.mem_filter.mp hi).1).1⟩, b.1.2.2.2.2.2.2⟩ I4 (fun x hx q => by rw [show sKn (rnN (fre ((trc s).foldl agS s) (trc s)).1 (trc s)) = sKn s from b.2.1.2.2.2.2.1.trans a.2.1.2.2.2.2.1] at q; exact absurd ((trc_y x hx).2.symm.trans (hI.2.2.2.2.2.2.1.2 x q).2) (by decide)) (fun F5 M5 R5 f5 => ?_))
  refine r_aload_n (p := 22) rfl rfl rfl ?_
  refine r_dup (p := 23) rfl rfl rfl ?_
  refine r_getI (p := 26) rfl rfl rfl rfl ?_
  refine r_iconst (v := 1) (p := 27) rfl rfl rfl ?_
  refine r_iadd (p := 28) rfl rfl ?_
  refine r_putI (p := 31) rfl rfl rfl rfl ?_
  refine r_iload_n (p := 32) rfl rfl rfl ?_
  refine r_ireturn rfl trivial ?_
  refine hQ _ _ ?_ (f1.tr (f2.tr (f3.tr (f4.tr (f5.tr ⟨fun a k ha => uF_ne (by omega), fun _ _ _ => rfl⟩)))))
  obtain ⟨c1, c2, c3, c4, c5, c6, l1, l2, l3, l4, e1, e2, e3, e4⟩ := R5
  exact ⟨c1, c2, c3, c4, c5, c6, l1, l2, l3, l4, e1, e2, e3, e4.1, by show F5 25 5 + 1 = _; rw [e4.2]; rfl⟩
