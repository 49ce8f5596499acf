/-! ===== the class's minor collector ===== -/
theorem RC.visit {s : mSt} {F : mF} {M : mM} {l : List Int32} (H : RC s F M) (hl : IL 26 l F M) (v : Int32) : RC s (gF_X3_visit F M v) (gM_X3_visit F M v) ∧ IL 26 (vis s l v) (gF_X3_visit F M v) (gM_X3_visit F M v) ∧ frC F M (gF_X3_visit F M v) (gM_X3_visit F M v) := by
  unfold gF_X3_visit gM_X3_visit vis
  rw [H.yng]
  by_cases hy : yngP s v
  · simp only [if_pos hy, if_neg (show ¬ (1 : Int32) = 0 by decide)]
    have h := hl.add v
    exact ⟨H.scr (Or.inr rfl) h.2, h.1, h.2.c (by omega) (by omega)⟩
  · simp only [if_neg hy, if_true]
    exact ⟨H, hl, frC.rf⟩
set_option maxRecDepth 100000 in
theorem lp_X3_visitFields {d : Nat} {Y : mY} {L : mL} {s : mSt} {v : Int32} {k : Nat} {Q : Option Value → mW → Prop} (hk : k ≤ 4) (hn : sN s v = nI k) (hv : liveP s v) :
    ∀ (n j : Nat) (l : List Int32) (F : mF) (M : mM), j + n = k → RC s F M → IL 26 l F M → (∀ F' M', RC s F' M' → IL 26 (((seqI n j).map (fun j => sR s (4 * v + j))).foldl (vis s) l) F' M' → frC F M F' M' → Q none (mXY Y, F', M', L)) → Wp (d + 2) tX3_visitFields 2 [some (.ref 25), some (.int v), some (.int (nI j))] [] (mXY Y, F, M, L) Q
  | 0, j, l, F, M, hj, H, hl, hQ => by
    refine r_iload_n (p := 3) rfl rfl rfl ?_
    refine r_aload_n (p := 4) rfl rfl rfl ?_
    refine r_getR (p := 7) rfl rfl rfl rfl rfl ?_
    refine r_iload_n (p := 8) rfl rfl rfl ?_
    refine r_cV (p := 11) rfl rfl rfl (Nat.le_of_ble_eq_true rfl) rfl (s_X4_fieldsOf ?_)
    rw [H.fc hv.1, hn]
    refine r_icmp_ge (p := 14) rfl rfl (fun c1 => ?_) (fun c1 => ?_)
    · refine r_return rfl ?_
      exact hQ F M H hl frC.rf
    · exact absurd (nI_le (a := k) (b := j) (by omega) (by omega)) c1
  | n + 1, j, l, F, M, hj, H, hl, hQ => by
    have hx := nI_x (j := j) (k := k) (by omega) (by omega) hk
    refine r_iload_n (p := 3) rfl rfl rfl ?_
    refine r_aload_n (p := 4) rfl rfl rfl ?_
    refine r_getR (p := 7) rfl rfl rfl rfl rfl ?_
    refine r_iload_n (p := 8) rfl rfl rfl ?_
    refine r_cV (p := 11) rfl rfl rfl (Nat.le_of_ble_eq_true rfl) rfl (s_X4_fieldsOf ?_)
    rw [H.fc hv.1, hn]
    refine r_icmp_ge (p := 14) rfl rfl (fun c1 => ?_) (fun c1 => ?_)
    · exact absurd c1 (nI_ge (a := j) (b := k) (by omega) (by omega))
    · refine r_aload_n (p := 15) rfl rfl rfl ?_
      refine r_aload_n (p := 16) rfl rfl rfl ?_
      refine r_getR (p := 19) rfl rfl rfl rfl rfl ?_
      refine r_iload_n (p := 20) rfl rfl rfl ?_
      refine r_iload_n (p := 21) rfl rfl rfl ?_
      refine r_cV (p := 24) rfl rfl rfl (Nat.le_of_ble_eq_true rfl) rfl (s_X4_fieldOf ?_)
      rw [H.fld hv hx.1 hx.2.1 (by rw [hn]; exact hx.2.2)]
      refine r_cV (p := 27) rfl rfl rfl (Nat.le_of_ble_eq_true rfl) rfl (s_X3_visit hl.s0 ?_)
      have H1 := H.visit hl (sR s (4 * v + nI j))
      refine r_iinc (v := nI (j + 1)) (p := 30) rfl rfl (nI_1 j) rfl rfl ?_
      refine r_goto rfl ?_
      exact lp_X3_visitFields hk hn hv n (j + 1) _ _ _ (by omega) H1.1 H1.2.1 (fun F' M' R I f => hQ F' M' R I (H1.2.2.tr f))
set_option maxRecDepth 100000 in
theorem s_X3_visitFields {d : Nat} {Y : mY} {F : mF} {M : mM} {L : mL} {v : Int32} {s : mSt} {l : List Int32} {Q : Option Value → mW → Prop} (H : RC s F M) (hI : Inv s) (hv : liveP s v) (hl : IL 26 l F M) (hQ : ∀ F' M', RC s F' M' → IL 26 (visF s l v) F' M' → frC F M F' M' → Q none (mXY Y, F', M', L)) : Cw (d + 3) 142 [.ref 25, .int v] (mXY Y, F, M, L) Q := by
  obtain ⟨k, hk, hn⟩ := hI.2.2.1 v hv.1
  refine Cw_in rfl rfl ?_
  refine r_iconst (v := 0) (p := 1) rfl rfl rfl ?_
  refine r_istore_n (p := 2) rfl rfl rfl ?_
  refine lp_X3_visitFields hk hn hv k 0 l F M (by omega) H hl (fun F' M' R I f => hQ F' M' R ?_ f)
  unfold visF flds
  rw [hn, nI_clamp (by omega)]
  exact I
set_option maxRecDepth 100000 in
theorem lp_X3_trace1 {d : Nat} {Y : mY} {L : mL} {s : mSt} {Q : Option Value → mW → Prop} :
    ∀ (n j : Nat) (l : List Int32) (F : mF) (M : mM), j + n = 4 → RC s F M → IL 26 l F M → (∀ F' M' l2, RC s F' M' → IL 26 (((seqI n j).map (sO s)).foldl (vis s) l) F' M' → frC F M F' M' → Wp (d + 3) tX3_traceSurvivors 32 [some (.ref 25), some l2, none] [] (mXY Y, F', M', L) Q) → Wp (d + 3) tX3_traceSurvivors 9 [some (.ref 25), some (.int (nI j)), none] [] (mXY Y, F, M, L) Q
  | 0, j, l, F, M, hj, H, hl, hQ => by
    refine r_iload_n (p := 10) rfl rfl rfl ?_
    refine r_iconst (v := 4) (p := 11) rfl rfl rfl ?_
    refine r_icmp_ge (p := 14) rfl rfl (fun c1 => ?_) (fun c1 => ?_)
    · exact hQ F M _ H hl frC.rf
    · exact absurd (nI_le (a := 4) (b := j) (by omega) (by omega)) c1
  | n + 1, j, l, F, M, hj, H, hl, hQ => by
    refine r_iload_n (p := 10) rfl rfl rfl ?_
    refine r_iconst (v := 4) (p := 11) rfl rfl rfl ?_
    refine r_icmp_ge (p := 14) rfl rfl (fun c1 => ?_) (fun c1 => ?_)
    · exact absurd c1 (nI_ge (a := j) (b := 4) (by omega) (by omega))
    · refine r_aload_n (p := 15) rfl rfl rfl ?_
      refine r_aload_n (p := 16) rfl rfl rfl ?_
      refine r_getR (p := 19) rfl rfl rfl rfl rfl ?_
      refine r_iload_n (p := 20) rfl rfl rfl ?_
      refine r_cV (p := 23) rfl rfl rfl (Nat.le_of_ble_eq_true rfl) rfl (s_X0_rootAt ?_)
      rw [H.rt (show j < 4 by omega)]
      refine r_cV (p := 26) rfl rfl rfl (Nat.le_of_ble_eq_true rfl) rfl (s_X3_visit hl.s0 ?_)
      have H1 := H.visit hl (sO s (nI j))
      refine r_iinc (v := nI (j + 1)) (p := 29) rfl rfl (nI_1 j) rfl rfl ?_
      refine r_goto rfl ?_
      exact lp_X3_trace1 n (j + 1) _ _ _ (by omega) H1.1 H1.2.1 (fun F' M' l2 R I f => hQ F' M' l2 R I (H1.2.2.tr f))
set_option maxRecDepth 100000 in
theorem lp_X3_trace2 {d : Nat} {Y : mY} {L : mL} {s : mSt} {Q : Option Value → mW → Prop} (hI : Inv s) :
    ∀ (t : List Int32) (j : Nat) (l : List Int32) (F : mF) (M : mM), (sKn s).drop j = t → j ≤ (sKn s).length → RC s F M → IL 26 l F M → (∀ F' M' l2, RC s F' M' → IL 26 (t.foldl (visF s) l) F' M' → frC F M F' M' → Wp (d + 3) tX3_traceSurvivors 65 [some (.ref 25), some (.ref 12), some l2] [] (mXY Y, F', M', L) Q) → Wp (d + 3) tX3_traceSurvivors 42 [some (.ref 25), some (.ref 12), some (.int (nI j))] [] (mXY Y, F, M, L) Q
  | [], j, l, F, M, hj, hjl, H, hl, hQ => by
    have hd : (sKn s).length ≤ j := List.drop_eq_nil_iff.mp hj
    have hN := H.2.2.2.2.2.2.2.1
    have hL := hN.len
    refine r_iload_n (p := 43) rfl rfl rfl ?_
    refine r_aload_n (p := 44) rfl rfl rfl ?_
    refine r_cV (p := 47) rfl rfl rfl (Nat.le_of_ble_eq_true rfl) rfl (s_X1_size (mIL_12 Y) ?_)
    rw [f_X1_size, hN.1]
    refine r_icmp_ge (p := 50) rfl rfl (fun c1 => ?_) (fun c1 => ?_)
    · exact hQ F M _ H hl frC.rf
    · exact absurd (nI_le hd (by omega)) c1
  | x :: t, j, l, F, M, hj, hjl, H, hl, hQ => by
    have hN := H.2.2.2.2.2.2.2.1
    obtain ⟨hd, hx, ht⟩ := drop_c (z := 0) hj
    have hv : oldP s x := hI.2.2.2.2.2.2.1.2 x (by rw [← hx]; exact getD_mem hd)
    have hL := hN.len
    refine r_iload_n (p := 43) rfl rfl rfl ?_
    refine r_aload_n (p := 44) rfl rfl rfl ?_
    refine r_cV (p := 47) rfl rfl rfl (Nat.le_of_ble_eq_true rfl) rfl (s_X1_size (mIL_12 Y) ?_)
    rw [f_X1_size, hN.1]
    refine r_icmp_ge (p := 50) rfl rfl (fun c1 => ?_) (fun c1 => ?_)
    · exact absurd c1 (nI_ge hd (by omega))
    · refine r_aload_n (p := 51) rfl rfl rfl ?_
      refine r_aload_n (p := 52) rfl rfl rfl ?_
      refine r_iload_n (p := 53) rfl rfl rfl ?_
      refine r_cV (p := 56) rfl rfl rfl (Nat.le_of_ble_eq_true rfl) rfl (s_X1_at (mIL_12 Y) hN.s1 ?_)
      rw [hN.at hd, hx]
      refine r_cV (p := 59) rfl rfl rfl (Nat.le_of_ble_eq_true rfl) rfl (s_X3_visitFields H hI ⟨hv.1, by rw [hv.2]; decide⟩ hl (fun F1 M1 R1 I1 f1 => ?_))
      refine r_iinc (v := nI (j + 1)) (p := 62) rfl rfl (nI_1 j) rfl rfl ?_
      refine r_goto rfl ?_
      exact lp_X3_trace2 hI t (j + 1) _ _ _ ht hd R1 I1 (fun F' M' l2 R I f => hQ F' M' l2 R I (f1.tr f))
theorem foldl_y {s : mSt} {t l : List Int32} (h : ∀ x ∈ l, yngP s x) : ∀ x ∈ t.foldl (vis s) l, yngP s x :=
  foldl_inv (P := fun l => ∀ x ∈ l, yngP s x) (fun l v _ hl x hx => by
    unfold vis addL at hx
    split at hx
    · split at hx
      · rcases List.mem_append.mp hx with z | z
        · exact hl x z
        · rw [List.mem_singleton.mp z]; assumption
      · exact hl x hx
    · exact hl x hx) h
theorem visF_y {s : mSt} {l : List Int32} {v : Int32} (h : ∀ x ∈ l, yngP s x) : ∀ x ∈ visF s l v, yngP s x := foldl_y h
theorem foldlF_y {s : mSt} {t l : List Int32} (h : ∀ x ∈ l, yngP s x) : ∀ x ∈ t.foldl (visF s) l, yngP s x :=
  foldl_inv (P := fun l => ∀ x ∈ l, yngP s x) (fun l v _ hl => visF_y hl) h
theorem bfs_y {s : mSt} : ∀ {n i : Nat} {l : List Int32}, (∀ x ∈ l, yngP s x) → ∀ x ∈ bfs (visF s) n i l, yngP s x
  | 0, _, _, h => h
  | n + 1, i, l, h => by
    unfold bfs
    split
    · exact bfs_y (visF_y h)
    · exact h
set_option maxRecDepth 100000 in
theorem lp_X3_trace3 {d : Nat} {Y : mY} {L : mL} {s : mSt} {Q : Option Value → mW → Prop} (hI : Inv s) :
    ∀ (n j : Nat) (l : List Int32) (F : mF) (M : mM), j + n = 101 → RC s F M → IL 26 l F M → (∀ x ∈ l, yngP s x) → (∀ F' M', RC s F' M' → IL 26 (bfs (visF s) n j l) F' M' → frC F M F' M' → Q none (mXY Y, F', M', L)) → Wp (d + 3) tX3_traceSurvivors 67 [some (.ref 25), some (.ref 12), some (.int (nI j))] [] (mXY Y, F, M, L) Q
  | 0, j, l, F, M, hj, H, hl, hy, hQ => by
    refine r_iload_n (p := 68) rfl rfl rfl ?_
    refine r_bipush (v := 100) (p := 70) rfl rfl rfl ?_
    refine r_icmp_ge (p := 73) rfl rfl (fun c1 => ?_) (fun c1 => ?_)
    · refine r_return rfl ?_
      exact hQ F M H hl frC.rf
    · exact absurd (nI_le (a := 100) (b := j) (by omega) (by omega)) c1
  | n + 1, j, l, F, M, hj, H, hl, hy, hQ => by
    have hL := hl.len
    refine r_iload_n (p := 68) rfl rfl rfl ?_
    refine r_bipush (v := 100) (p := 70) rfl rfl rfl ?_
    refine r_icmp_ge (p := 73) rfl rfl (fun c1 => ?_) (fun c1 => ?_)
    · have hd : ¬ j < l.length := fun q => absurd c1 (nI_ge (a := j) (b := 100) (by omega) (by omega))
      rw [bfs, if_neg hd] at hQ
      refine r_return rfl ?_
      exact hQ F M H hl frC.rf
    · refine r_iload_n (p := 74) rfl rfl rfl ?_
      refine r_aload_n (p := 75) rfl rfl rfl ?_
      refine r_getR (p := 78) rfl rfl rfl rfl rfl ?_
      refine r_cV (p := 81) rfl rfl rfl (Nat.le_of_ble_eq_true rfl) rfl (s_X1_size (mIL_26 Y) ?_)
      rw [f_X1_size, hl.1]
      refine r_icmp_ge (p := 84) rfl rfl (fun c2 => ?_) (fun c2 => ?_)
      · have hd : ¬ j < l.length := fun q => absurd c2 (nI_ge (a := j) (b := l.length) q (by omega))
        rw [bfs, if_neg hd] at hQ
        refine r_return rfl ?_
        exact hQ F M H hl frC.rf
      · refine r_aload_n (p := 85) rfl rfl rfl ?_
        refine r_aload_n (p := 86) rfl rfl rfl ?_
        refine r_getR (p := 89) rfl rfl rfl rfl rfl ?_
        refine r_iload_n (p := 90) rfl rfl rfl ?_
        refine r_cV (p := 93) rfl rfl rfl (Nat.le_of_ble_eq_true rfl) rfl (s_X1_at (mIL_26 Y) hl.s1 ?_)
        have hd : j < l.length := Nat.lt_of_not_le fun q => c2 (nI_le q (by omega))
        rw [hl.at hd]
        refine r_cV (p := 96) rfl rfl rfl (Nat.le_of_ble_eq_true rfl) rfl (s_X3_visitFields H hI ⟨(hy _ (getD_mem hd)).1, by rw [(hy _ (getD_mem hd)).2]; decide⟩ hl (fun F1 M1 R1 I1 f1 => ?_))
        rw [bfs, if_pos hd] at hQ
        refine r_iinc (v := nI (j + 1)) (p := 99) rfl rfl (nI_1 j) rfl rfl ?_
        refine r_goto rfl ?_
        exact lp_X3_trace3 hI n (j + 1) _ _ _ (by omega) R1 I1 (visF_y hy) (fun F' M' R I f => hQ F' M' R I (f1.tr f))
set_option maxRecDepth 100000 in
theorem s_X3_traceSurvivors {d : Nat} {Y : mY} {F : mF} {M : mM} {L : mL} {s : mSt} {Q : Option Value → mW → Prop} (H : RC s F M) (hI : Inv s) (hQ : ∀ F' M', RC s F' M' → IL 26 (trc s) F' M' → frC F M F' M' → Q none (mXY Y, F', M', L)) : Cw (d + 4) 141 [.ref 25] (mXY Y, F, M, L) Q := by
  refine Cw_in rfl rfl ?_
  refine r_aload_n (p := 1) rfl rfl rfl ?_
  refine r_getR (p := 4) rfl rfl rfl rfl rfl ?_
  refine r_cV (p := 7) rfl rfl rfl (Nat.le_of_ble_eq_true rfl) rfl (s_X1_clear (mIL_26 Y) (fun F0 M0 R0 f0 => ?_))
  have H0 := H.scr (Or.inr rfl) f0
  refine r_iconst (v := 0) (p := 8) rfl rfl rfl ?_
  refine r_istore_n (p := 9) rfl rfl rfl ?_
  refine lp_X3_trace1 4 0 [] F0 M0 rfl H0 R0 (fun F1 M1 l2 H1 R1 f1 => ?_)
  have e : ((seqI 4 0).map (sO s)).foldl (vis s) [] = (rts s).foldl (vis s) [] := rfl
  rw [e] at R1
  refine r_aload_n (p := 33) rfl rfl rfl ?_
  refine r_getR (p := 36) rfl rfl rfl rfl rfl ?_
  refine r_cV (p := 39) rfl rfl rfl (Nat.le_of_ble_eq_true rfl) rfl (s_X0_rememberedSet  ?_)
  refine r_astore_n (p := 40) rfl rfl rfl ?_
  refine r_iconst (v := 0) (p := 41) rfl rfl rfl ?_
  refine r_istore_n (p := 42) rfl rfl rfl ?_
  refine lp_X3_trace2 hI (sKn s) 0 _ F1 M1 rfl (Nat.zero_le _) H1 R1 (fun F2 M2 l3 H2 R2 f2 => ?_)
  refine r_iconst (v := 0) (p := 66) rfl rfl rfl ?_
  refine r_istore_n (p := 67) rfl rfl rfl ?_
  refine lp_X3_trace3 hI 101 0 _ F2 M2 rfl H2 R2 (foldlF_y (foldl_y (fun x hx => by cases hx))) (fun F' M' R I f => hQ F' M' R I ?_)
  exact (f0.c (by omega) (by omega)).tr (f1.tr (f2.tr f))
