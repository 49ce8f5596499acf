set_option maxRecDepth 100000 in
theorem s_X0_place {d : Nat} {Y : mY} {F : mF} {M : mM} {L : mL} {s : mSt} {v : Int32} {Q : Option Value → mW → Prop} (H : RC s F M) (hI : Inv s) (hQ : ∀ F' M', RC (aloc s v).2 F' M' → frC F M F' M' → Q (some (.int (aloc s v).1)) (mXY Y, F', M', L)) : Cw (d + 5) 112 [.ref 1, .int v] (mXY Y, F, M, L) Q := by
  have hN := H.2.2.2.2.2.2.1
  refine Cw_in rfl rfl ?_
  refine r_iload_n (p := 1) rfl rfl rfl ?_
  refine r_iconst (v := 0) (p := 2) rfl rfl rfl ?_
  refine r_iconst (v := 4) (p := 3) rfl rfl rfl ?_
  refine r_cS7 (p := 6) rfl rfl (Nat.le_of_ble_eq_true rfl) rfl (s_X6_outside ?_)
  rw [out_eq]
  refine r_if_eq (p := 9) rfl rfl (fun c1 => ?_) (fun c1 => ?_)
  · have ho : ¬ (v < 0 ∨ 4 < v) := fun q => absurd c1 (by rw [if_pos q]; decide)
    refine r_aload_n (p := 13) rfl rfl rfl ?_
    refine r_getI (p := 16) rfl rfl rfl rfl ?_
    refine r_aload_n (p := 17) rfl rfl rfl ?_
    refine r_getR (p := 20) rfl rfl rfl rfl rfl ?_
    refine r_cV (p := 23) rfl rfl rfl (Nat.le_of_ble_eq_true rfl) rfl (s_X4_wordsYoung ?_)
    rw [f_X4_wordsYoung, H.2.2.2.2.2.2.2.2.2.2.2.1.2.1, H.2.2.2.2.2.2.2.2.2.2.1.1]
    refine r_isub (p := 24) rfl rfl ?_
    refine r_iconst (v := 1) (p := 25) rfl rfl rfl ?_
    refine r_iload_n (p := 26) rfl rfl rfl ?_
    refine r_iadd (p := 27) rfl rfl ?_
    refine r_icmp_lt (p := 30) rfl rfl (fun c2 => ?_) (fun c2 => ?_)
    · refine r_iconst (v := 0) (p := 35) rfl rfl rfl ?_
      refine r_istore_n (p := 36) rfl rfl rfl ?_
      refine r_iload_n (p := 37) rfl rfl rfl ?_
      refine r_if_eq (p := 40) rfl rfl (fun _ => ?_) (fun c => absurd c (by decide))
      refine r_bipush (v := (-4)) (p := 54) rfl rfl rfl ?_
      have e : aloc s v = (-4, s) := by
        unfold aloc
        rw [if_neg ho, if_pos ?_]
        exact Or.inl c2
      rw [e] at hQ
      refine r_ireturn rfl trivial ?_
      exact hQ F M H frC.rf
    · refine r_iconst (v := 1) (p := 31) rfl rfl rfl ?_
      refine r_goto rfl ?_
      refine r_istore_n (p := 36) rfl rfl rfl ?_
      refine r_iload_n (p := 37) rfl rfl rfl ?_
      refine r_if_eq (p := 40) rfl rfl (fun c => absurd c (by decide)) (fun _ => ?_)
      refine r_aload_n (p := 41) rfl rfl rfl ?_
      refine r_getR (p := 44) rfl rfl rfl rfl rfl ?_
      refine r_cV (p := 47) rfl rfl rfl (Nat.le_of_ble_eq_true rfl) rfl (s_X4_allocatedObjects ?_)
      rw [f_X4_allocatedObjects, H.2.2.2.2.2.2.2.2.2.2.2.1.1]
      refine r_bipush (v := 100) (p := 49) rfl rfl rfl ?_
      refine r_icmp_lt (p := 52) rfl rfl (fun c3 => ?_) (fun c3 => ?_)
      · refine r_aload_n (p := 56) rfl rfl rfl ?_
        refine r_getR (p := 59) rfl rfl rfl rfl rfl ?_
        refine r_iload_n (p := 60) rfl rfl rfl ?_
        refine r_cV (p := 63) rfl rfl rfl (Nat.le_of_ble_eq_true rfl) rfl (s_X4_create H hI ho (Int32.not_le.mpr c3) (fun F1 M1 H1 f1 => ?_))
        obtain ⟨n, hn, hal, hin, hg⟩ := al_new hI (Int32.not_le.mpr c3)
        have hnm : sAl s ∉ sNu s := fun z => absurd (hg.symm.trans ((hI.2.2.2.2.2.1.2 _).mp z).2) (by decide)
        have hN1 := H1.2.2.2.2.2.2.1
        refine r_istore_n (p := 64) rfl rfl rfl ?_
        refine r_aload_n (p := 65) rfl rfl rfl ?_
        refine r_getR (p := 68) rfl rfl rfl rfl rfl ?_
        refine r_iload_n (p := 69) rfl rfl rfl ?_
        refine r_cV (p := 72) rfl rfl rfl (Nat.le_of_ble_eq_true rfl) rfl (s_X1_add (mIL_9 Y) hN1.s0 ?_)
        have H2 := hN1.add (sAl s)
        have e0 : addL (sNu (newN s v)) (sAl s) = sNu s ++ [sAl s] := if_pos ⟨hin, hnm⟩
        rw [e0] at H2
        have H3 := H1.l9 H2.2 H2.1
        have e : aloc s v = (sAl s, newS s v) := by
          unfold aloc
          rw [if_neg ho, if_neg (fun z => z.elim c2 (fun q => Int32.not_le.mpr c3 q))]
        rw [e] at hQ
        refine r_iload_n (p := 73) rfl rfl rfl ?_
        refine r_ireturn rfl trivial ?_
        exact hQ _ _ H3 (f1.tr (H2.2.c (by omega) (by omega)))
      · refine r_bipush (v := (-4)) (p := 54) rfl rfl rfl ?_
        have e : aloc s v = (-4, s) := by
          unfold aloc
          rw [if_neg ho, if_pos ?_]
          exact Or.inr (Int32.not_lt.mp c3)
        rw [e] at hQ
        refine r_ireturn rfl trivial ?_
        exact hQ F M H frC.rf
  · refine r_bipush (v := (-2)) (p := 11) rfl rfl rfl ?_
    have ho : v < 0 ∨ 4 < v := Classical.byContradiction fun q => c1 (if_neg q)
    have e : aloc s v = (-2, s) := if_pos ho
    rw [e] at hQ
    refine r_ireturn rfl trivial ?_
    exact hQ F M H frC.rf
theorem RC.reach {s : mSt} {F : mF} {M : mM} {l : List Int32} (H : RC s F M) (hl : IL 15 l F M) (v : Int32) : RC s (gF_X0_reach F M v) (gM_X0_reach F M v) ∧ IL 15 (rch s l v) (gF_X0_reach F M v) (gM_X0_reach F M v) ∧ frC F M (gF_X0_reach F M v) (gM_X0_reach F M v) := by
  unfold gF_X0_reach gM_X0_reach rch
  rw [H.live]
  by_cases hy : liveP s v
  · simp only [if_pos hy, if_neg (show ¬ (1 : Int32) = 0 by decide)]
    have h := hl.add v
    exact ⟨H.scr (Or.inl rfl) h.2, h.1, h.2.c (by omega) (by omega)⟩
  · simp only [if_neg hy, if_true]
    exact ⟨H, hl, frC.rf⟩
theorem rfoldl_y {s : mSt} {t l : List Int32} (h : ∀ x ∈ l, liveP s x) : ∀ x ∈ t.foldl (rch s) l, liveP s x :=
  foldl_inv (P := fun l => ∀ x ∈ l, liveP s x) (fun l v _ hl x hx => by
    unfold rch addL at hx
    split at hx
    · split at hx
      · rcases List.mem_append.mp hx with z | z
        · exact hl x z
        · rw [List.mem_singleton.mp z]; assumption
      · exact hl x hx
    · exact hl x hx) h
theorem rchF_y {s : mSt} {l : List Int32} {v : Int32} (h : ∀ x ∈ l, liveP s x) : ∀ x ∈ rchF s l v, liveP s x := rfoldl_y h
set_option maxRecDepth 100000 in
theorem lp_X0_count1 {d : Nat} {Y : mY} {L : mL} {s : mSt} {Q : Option Value → mW → Prop} :
    ∀ (n j : Nat) (l : List Int32) (F : mF) (M : mM), j + n = 4 → RC s F M → IL 15 l F M → (∀ F' M' l2, RC s F' M' → IL 15 (((seqI n j).map (sO s)).foldl (rch s) l) F' M' → frC F M F' M' → Wp (d + 2) tX0_countReachable 30 [some (.ref 1), some l2, none, none] [] (mXY Y, F', M', L) Q) → Wp (d + 2) tX0_countReachable 9 [some (.ref 1), some (.int (nI j)), none, none] [] (mXY Y, F, M, L) Q
  | 0, j, l, F, M, hj, H, hl, hQ => by
    refine r_iload_n (p := 10) rfl rfl rfl ?_
    refine r_iconst (v := 4) (p := 11) rfl rfl rfl ?_
    refine r_icmp_ge (p := 14) rfl rfl (fun c1 => ?_) (fun c1 => ?_)
    · exact hQ F M _ H hl frC.rf
    · exact absurd (nI_le (a := 4) (b := j) (by omega) (by omega)) c1
  | n + 1, j, l, F, M, hj, H, hl, hQ => by
    refine r_iload_n (p := 10) rfl rfl rfl ?_
    refine r_iconst (v := 4) (p := 11) rfl rfl rfl ?_
    refine r_icmp_ge (p := 14) rfl rfl (fun c1 => ?_) (fun c1 => ?_)
    · exact absurd c1 (nI_ge (a := j) (b := 4) (by omega) (by omega))
    · refine r_aload_n (p := 15) rfl rfl rfl ?_
      refine r_aload_n (p := 16) rfl rfl rfl ?_
      refine r_getR (p := 19) rfl rfl rfl rfl rfl ?_
      refine r_iload_n (p := 20) rfl rfl rfl ?_
      refine r_iald (p := 21) rfl rfl rfl (vp_in_nI (show j < 4 by omega) (by omega)) rfl ?_
      refine r_cV (p := 24) rfl rfl rfl (Nat.le_of_ble_eq_true rfl) rfl (s_X0_reach hl.s0 ?_)
      rw [H.2.2.2.2.2.1 j (by omega)]
      have H1 := H.reach hl (sO s (nI j))
      refine r_iinc (v := nI (j + 1)) (p := 27) rfl rfl (nI_1 j) rfl rfl ?_
      refine r_goto rfl ?_
      exact lp_X0_count1 n (j + 1) _ _ _ (by omega) H1.1 H1.2.1 (fun F' M' l2 R I f => hQ F' M' l2 R I (H1.2.2.tr f))
set_option maxRecDepth 100000 in
theorem lp_X0_count2 {d : Nat} {Y : mY} {L : mL} {s : mSt} {u v : Int32} {k : Nat} {Q : Option Value → mW → Prop} (hk : k ≤ 4) (hn : sN s v = nI k) (hv : liveP s v) :
    ∀ (n j : Nat) (l : List Int32) (F : mF) (M : mM), j + n = k → RC s F M → IL 15 l F M → (∀ F' M' l3, RC s F' M' → IL 15 (((seqI n j).map (fun j => sR s (4 * v + j))).foldl (rch s) l) F' M' → frC F M F' M' → Wp (d + 2) tX0_countReachable 91 [some (.ref 1), some (.int u), some (.int v), some l3] [] (mXY Y, F', M', L) Q) → Wp (d + 2) tX0_countReachable 60 [some (.ref 1), some (.int u), some (.int v), some (.int (nI j))] [] (mXY Y, F, M, L) Q
  | 0, j, l, F, M, hj, H, hl, hQ => by
    refine r_iload_n (p := 61) rfl rfl rfl ?_
    refine r_aload_n (p := 62) rfl rfl rfl ?_
    refine r_getR (p := 65) rfl rfl rfl rfl rfl ?_
    refine r_iload_n (p := 66) rfl rfl rfl ?_
    refine r_cV (p := 69) rfl rfl rfl (Nat.le_of_ble_eq_true rfl) rfl (s_X4_fieldsOf ?_)
    rw [H.fc hv.1, hn]
    refine r_icmp_ge (p := 72) rfl rfl (fun c1 => ?_) (fun c1 => ?_)
    · exact hQ F M _ H hl frC.rf
    · exact absurd (nI_le (a := k) (b := j) (by omega) (by omega)) c1
  | n + 1, j, l, F, M, hj, H, hl, hQ => by
    have hx := nI_x (j := j) (k := k) (by omega) (by omega) hk
    refine r_iload_n (p := 61) rfl rfl rfl ?_
    refine r_aload_n (p := 62) rfl rfl rfl ?_
    refine r_getR (p := 65) rfl rfl rfl rfl rfl ?_
    refine r_iload_n (p := 66) rfl rfl rfl ?_
    refine r_cV (p := 69) rfl rfl rfl (Nat.le_of_ble_eq_true rfl) rfl (s_X4_fieldsOf ?_)
    rw [H.fc hv.1, hn]
    refine r_icmp_ge (p := 72) rfl rfl (fun c1 => ?_) (fun c1 => ?_)
    · exact absurd c1 (nI_ge (a := j) (b := k) (by omega) (by omega))
    · refine r_aload_n (p := 73) rfl rfl rfl ?_
      refine r_aload_n (p := 74) rfl rfl rfl ?_
      refine r_getR (p := 77) rfl rfl rfl rfl rfl ?_
      refine r_iload_n (p := 78) rfl rfl rfl ?_
      refine r_iload_n (p := 79) rfl rfl rfl ?_
      refine r_cV (p := 82) rfl rfl rfl (Nat.le_of_ble_eq_true rfl) rfl (s_X4_fieldOf ?_)
      rw [H.fld hv hx.1 hx.2.1 (by rw [hn]; exact hx.2.2)]
      refine r_cV (p := 85) rfl rfl rfl (Nat.le_of_ble_eq_true rfl) rfl (s_X0_reach hl.s0 ?_)
      have H1 := H.reach hl (sR s (4 * v + nI j))
      refine r_iinc (v := nI (j + 1)) (p := 88) rfl rfl (nI_1 j) rfl rfl ?_
      refine r_goto rfl ?_
      exact lp_X0_count2 hk hn hv n (j + 1) _ _ _ (by omega) H1.1 H1.2.1 (fun F' M' l3 R I f => hQ F' M' l3 R I (H1.2.2.tr f))
set_option maxRecDepth 100000 in
theorem lp_X0_count3 {d : Nat} {Y : mY} {L : mL} {s : mSt} {Q : Option Value → mW → Prop} (hI : Inv s) :
    ∀ (n j : Nat) (l : List Int32) (F : mF) (M : mM) (z2 z3 : Option Value), j + n = 101 → RC s F M → IL 15 l F M → (∀ x ∈ l, liveP s x) → (∀ F' M', RC s F' M' → frC F M F' M' → Q (some (.int (nI (bfs (rchF s) n j l).length))) (mXY Y, F', M', L)) → Wp (d + 2) tX0_countReachable 32 [some (.ref 1), some (.int (nI j)), z2, z3] [] (mXY Y, F, M, L) Q
  | 0, j, l, F, M, z2, z3, hj, H, hl, hy, hQ => by
    refine r_iload_n (p := 33) rfl rfl rfl ?_
    refine r_bipush (v := 100) (p := 35) rfl rfl rfl ?_
    refine r_icmp_ge (p := 38) rfl rfl (fun c1 => ?_) (fun c1 => ?_)
    · refine r_aload_n (p := 98) rfl rfl rfl ?_
      refine r_getR (p := 101) rfl rfl rfl rfl rfl ?_
      refine r_cV (p := 104) rfl rfl rfl (Nat.le_of_ble_eq_true rfl) rfl (s_X1_size (mIL_15 Y) ?_)
      rw [f_X1_size, hl.1]
      refine r_ireturn rfl trivial ?_
      exact hQ F M H frC.rf
    · exact absurd (nI_le (a := 100) (b := j) (by omega) (by omega)) c1
  | n + 1, j, l, F, M, z2, z3, hj, H, hl, hy, hQ => by
    have hL := hl.len
    refine r_iload_n (p := 33) rfl rfl rfl ?_
    refine r_bipush (v := 100) (p := 35) rfl rfl rfl ?_
    refine r_icmp_ge (p := 38) rfl rfl (fun c1 => ?_) (fun c1 => ?_)
    · refine r_aload_n (p := 98) rfl rfl rfl ?_
      refine r_getR (p := 101) rfl rfl rfl rfl rfl ?_
      refine r_cV (p := 104) rfl rfl rfl (Nat.le_of_ble_eq_true rfl) rfl (s_X1_size (mIL_15 Y) ?_)
      rw [f_X1_size, hl.1]
      have hd : ¬ j < l.length := fun q => absurd c1 (nI_ge (a := j) (b := 100) (by omega) (by omega))
      rw [bfs, if_neg hd] at hQ
      refine r_ireturn rfl trivial ?_
      exact hQ F M H frC.rf
    · refine r_iload_n (p := 39) rfl rfl rfl ?_
      refine r_aload_n (p := 40) rfl rfl rfl ?_
      refine r_getR (p := 43) rfl rfl rfl rfl rfl ?_
      refine r_cV (p := 46) rfl rfl rfl (Nat.le_of_ble_eq_true rfl) rfl (s_X1_size (mIL_15 Y) ?_)
      rw [f_X1_size, hl.1]
      refine r_icmp_ge (p := 49) rfl rfl (fun c2 => ?_) (fun c2 => ?_)
      · refine r_aload_n (p := 98) rfl rfl rfl ?_
        refine r_getR (p := 101) rfl rfl rfl rfl rfl ?_
        refine r_cV (p := 104) rfl rfl rfl (Nat.le_of_ble_eq_true rfl) rfl (s_X1_size (mIL_15 Y) ?_)
        rw [f_X1_size, hl.1]
        have hd : ¬ j < l.length := fun q => absurd c2 (nI_ge (a := j) (b := l.length) q (by omega))
        rw [bfs, if_neg hd] at hQ
        refine r_ireturn rfl trivial ?_
        exact hQ F M H frC.rf
      · refine r_aload_n (p := 50) rfl rfl rfl ?_
        refine r_getR (p := 53) rfl rfl rfl rfl rfl ?_
        refine r_iload_n (p := 54) rfl rfl rfl ?_
        refine r_cV (p := 57) rfl rfl rfl (Nat.le_of_ble_eq_true rfl) rfl (s_X1_at (mIL_15 Y) hl.s1 ?_)
        have hd : j < l.length := Nat.lt_of_not_le fun q => c2 (nI_le q (by omega))
        rw [hl.at hd]
        refine r_istore_n (p := 58) rfl rfl rfl ?_
        refine r_iconst (v := 0) (p := 59) rfl rfl rfl ?_
        refine r_istore_n (p := 60) rfl rfl rfl ?_
        have hv := hy _ (getD_mem (z := 0) hd)
        obtain ⟨k, hk, hn⟩ := hI.2.2.1 _ hv.1
        rw [bfs, if_pos hd] at hQ
        refine lp_X0_count2 hk hn hv k 0 l F M (by omega) H hl (fun F1 M1 l3 R1 I1 f1 => ?_)
        have e : ((seqI k 0).map (fun q => sR s (4 * l.getD j 0 + q))).foldl (rch s) l = rchF s l (l.getD j 0) := by unfold rchF flds; rw [hn, nI_clamp (by omega)]
        rw [e] at I1
        refine r_iinc (v := nI (j + 1)) (p := 94) rfl rfl (nI_1 j) rfl rfl ?_
        refine r_goto rfl ?_
        exact lp_X0_count3 hI n (j + 1) _ _ _ _ _ (by omega) R1 I1 (rchF_y hy) (fun F' M' R f => hQ F' M' R (f1.tr f))
set_option maxRecDepth 100000 in
theorem s_X0_countReachable {d : Nat} {Y : mY} {F : mF} {M : mM} {L : mL} {s : mSt} {Q : Option Value → mW → Prop} (H : RC s F M) (hI : Inv s) (hQ : ∀ F' M', RC s F' M' → frC F M F' M' → Q (some (.int (nI (rcc s).length))) (mXY Y, F', M', L)) : Cw (d + 3) 117 [.ref 1] (mXY Y, F, M, L) Q := by
  refine Cw_in rfl rfl ?_
  refine r_aload_n (p := 1) rfl rfl rfl ?_
  refine r_getR (p := 4) rfl rfl rfl rfl rfl ?_
  refine r_cV (p := 7) rfl rfl rfl (Nat.le_of_ble_eq_true rfl) rfl (s_X1_clear (mIL_15 Y) (fun F0 M0 R0 f0 => ?_))
  have H0 := H.scr (Or.inl rfl) f0
  refine r_iconst (v := 0) (p := 8) rfl rfl rfl ?_
  refine r_istore_n (p := 9) rfl rfl rfl ?_
  refine lp_X0_count1 4 0 [] F0 M0 rfl H0 R0 (fun F1 M1 l2 H1 R1 f1 => ?_)
  have e : ((seqI 4 0).map (sO s)).foldl (rch s) [] = (rts s).foldl (rch s) [] := rfl
  rw [e] at R1
  refine r_iconst (v := 0) (p := 31) rfl rfl rfl ?_
  refine r_istore_n (p := 32) rfl rfl rfl ?_
  exact lp_X0_count3 hI 101 0 _ F1 M1 _ _ rfl H1 R1 (rfoldl_y (fun x hx => by cases hx)) (fun F' M' R f => hQ F' M' R ((f0.c (by omega) (by omega)).tr (f1.tr f)))
def f_X6_isTarget (F : mF) (M : mM) (t : Int32) : Int32 := (if t = (-1) then 1 else (if (f_X4_isLive F M t) = 0 then 0 else 1))
set_option maxRecDepth 100000 in
theorem s_X6_isTarget {d : Nat} {Y : mY} {F : mF} {M : mM} {L : mL} {t : Int32} {Q : Option Value → mW → Prop} (hQ : Q (some (.int (f_X6_isTarget F M t))) ((mXY Y), F, M, L)) : Cw (d + 2) 207 [.ref 0, .int t] ((mXY Y), F, M, L) Q := by
  refine Cw_in rfl rfl ?_
  refine r_iload_n (p := 1) rfl rfl rfl ?_
  refine r_iconst (v := (-1)) (p := 2) rfl rfl rfl ?_
  refine r_icmp_eq (p := 5) rfl rfl (fun c1 => ?_) (fun c1 => ?_)
  · refine r_iconst (v := 1) (p := 17) rfl rfl rfl ?_
    refine r_goto rfl ?_
    refine r_ireturn rfl mok_1 ?_
    simp only [f_X6_isTarget, if_pos c1] at hQ; exact hQ
  · refine r_aload_n (p := 6) rfl rfl rfl ?_
    refine r_getR (p := 9) rfl rfl rfl rfl rfl ?_
    refine r_iload_n (p := 10) rfl rfl rfl ?_
    refine r_cV (p := 13) rfl rfl rfl (Nat.le_of_ble_eq_true rfl) rfl (s_X4_isLive  ?_)
    refine r_if_eq (p := 16) rfl rfl (fun c2 => ?_) (fun c2 => ?_)
    · refine r_iconst (v := 0) (p := 21) rfl rfl rfl ?_
      refine r_ireturn rfl mok_0 ?_
      simp only [f_X6_isTarget, if_neg c1, if_pos c2] at hQ; exact hQ
    · refine r_iconst (v := 1) (p := 17) rfl rfl rfl ?_
      refine r_goto rfl ?_
      refine r_ireturn rfl mok_1 ?_
      simp only [f_X6_isTarget, if_neg c1, if_neg c2] at hQ; exact hQ
theorem RC.tgt {s : mSt} {F : mF} {M : mM} (H : RC s F M) {t : Int32} : f_X6_isTarget F M t = if tgtP s t then 1 else 0 := by
  unfold f_X6_isTarget
  rw [H.live]
  by_cases h1 : t = -1
  · rw [if_pos h1, if_pos (Or.inl h1)]
  · rw [if_neg h1]
    by_cases h2 : liveP s t
    · rw [if_pos h2, if_neg (by decide), if_pos (Or.inr h2)]
    · rw [if_neg h2, if_pos rfl, if_neg (fun z => z.elim h1 h2)]
theorem RC.hf {s : mSt} {F : mF} {M : mM} (H : RC s F M) {i j : Int32} : f_X4_hasField F M i j = if fldP s i j then 1 else 0 := by
  unfold f_X4_hasField
  rw [H.live]
  by_cases h1 : liveP s i
  · rw [if_pos h1, if_neg (by decide), H.fc h1.1]
    by_cases h2 : j < 0
    · rw [if_pos h2, if_neg (fun z => z.2.1 h2)]
    · rw [if_neg h2]
      by_cases h3 : sN s i ≤ j
      · rw [if_pos h3, if_neg (fun z => absurd z.2.2 (Int32.not_lt.mpr h3))]
      · rw [if_neg h3, if_pos ⟨h1, h2, Int32.not_le.mp h3⟩]
  · rw [if_neg h1, if_pos rfl, if_neg (fun z => h1 z.1)]
theorem RC.doom {s : mSt} {F : mF} {M : mM} (H : RC s F M) {t : Int32} : f_X2_isDoomed F M t = if sPh s = 2 ∧ whtP s t then 1 else 0 := by
  unfold f_X2_isDoomed
  rw [H.2.2.2.2.2.2.2.2.2.2.2.2.1.1]
  by_cases h1 : sPh s = 2
  · rw [if_pos h1, H.wht (by rw [h1]; decide)]
    by_cases h2 : whtP s t
    · rw [if_pos h2, if_neg (by decide), if_pos ⟨h1, h2⟩]
    · rw [if_neg h2, if_pos rfl, if_neg (fun z => h2 z.2)]
  · rw [if_neg h1, if_neg (fun z => h1 z.1)]
theorem RC.note {s : mSt} {F : mF} {M : mM} (H : RC s F M) (hI : Inv s) (t : Int32) : RC (stB s t) (gF_X2_noteStore F M t) (gM_X2_noteStore F M t) ∧ frC F M (gF_X2_noteStore F M t) (gM_X2_noteStore F M t) := by
  unfold gF_X2_noteStore gM_X2_noteStore stB
  rw [H.2.2.2.2.2.2.2.2.2.2.2.2.1.1]
  by_cases h1 : sPh s = 1
  · simp only [if_pos h1]; exact H.shade hI h1 t
  · simp only [if_neg h1]; exact ⟨H, frC.rf⟩
theorem RC.setF {s : mSt} {F : mF} {M : mM} (H : RC s F M) {i j t : Int32} (hf : fldP s i j) : RC (wR s (up1 (sR s) (4 * i + j) t)) F (gM_X4_setField F M i j t) ∧ frC F M F (gM_X4_setField F M i j t) := by
  unfold gM_X4_setField
  rw [H.hf, if_pos hf, if_neg (by decide), ix4c]
  obtain ⟨c1, c2, c3, c4, c5, c6, l1, l2, l3, l4, e⟩ := H
  refine ⟨⟨c1, c2, c3, c4, fun x y hx hg h0 h1 => ?_, c6, l1, l2, l3, l4, e⟩, fun _ _ _ => rfl, fun a k ha => uM_ne (by omega)⟩
  rw [ix4c, uM_at]
  show _ = if 4 * x + y = 4 * i + j then t else sR s (4 * x + y)
  rw [← c5 x y hx hg h0 h1, ix4c]
theorem RC.putF {s : mSt} {F : mF} {M : mM} (H : RC s F M) {i j t : Int32} (hf : fldP s i j) : RC (stK s i j t) (gF_X0_putField F M i j t) (gM_X0_putField F M i j t) ∧ frC F M (gF_X0_putField F M i j t) (gM_X0_putField F M i j t) := by
  have H1 := H.setF (t := t) hf
  unfold gF_X0_putField gM_X0_putField stK
  rw [H1.1.old, H1.1.yng]
  by_cases h1 : oldP s i
  · have e1 : oldP (wR s (up1 (sR s) (4 * i + j) t)) i := h1
    by_cases h2 : yngP s t
    · have e2 : yngP (wR s (up1 (sR s) (4 * i + j) t)) t := h2
      simp only [if_pos e1, if_pos e2, if_neg (show ¬ (1 : Int32) = 0 by decide), if_pos (And.intro h1 h2)]
      have h := H1.1.2.2.2.2.2.2.2.1.add i
      exact ⟨H1.1.l12 h.2 h.1, H1.2.tr (h.2.c (by omega) (by omega))⟩
    · have e2 : ¬ yngP (wR s (up1 (sR s) (4 * i + j) t)) t := h2
      simp only [if_pos e1, if_neg e2, if_true, if_neg (show ¬ (1 : Int32) = 0 by decide), if_neg (show ¬ (oldP s i ∧ yngP s t) from fun z => h2 z.2)]
      exact H1
  · have e1 : ¬ oldP (wR s (up1 (sR s) (4 * i + j) t)) i := h1
    simp only [if_neg e1, if_true, if_neg (show ¬ (oldP s i ∧ yngP s t) from fun z => h1 z.1)]
    exact H1
theorem RC.f4 {s : mSt} {F : mF} {M : mM} (H : RC s F M) (hI : Inv s) : ∀ i, inR i → M 5 i ≤ 4 := fun x hx => by
  rw [H.2.2.1 x hx]
  obtain ⟨q, hq, e⟩ := hI.2.2.1 x hx
  rw [e]
  exact nI_le (b := 4) hq (by omega)
set_option maxRecDepth 100000 in
theorem s_X6_storeInField {d : Nat} {Y : mY} {F : mF} {M : mM} {L : mL} {s : mSt} {i j t : Int32} {Q : Option Value → mW → Prop} (H : RC s F M) (hI : Inv s) (hQ : ∀ F' M', RC (stF s i j t).2 F' M' → frC F M F' M' → Q (some (.int (stF s i j t).1)) (mXY Y, F', M', L)) : Cw (d + 5) 208 [.ref 0, .int i, .int j, .int t] (mXY Y, F, M, L) Q := by
  refine Cw_in rfl rfl ?_
  refine r_aload_n (p := 1) rfl rfl rfl ?_
  refine r_getR (p := 4) rfl rfl rfl rfl rfl ?_
  refine r_iload_n (p := 5) rfl rfl rfl ?_
  refine r_iload_n (p := 6) rfl rfl rfl ?_
  refine r_cV (p := 9) rfl rfl rfl (Nat.le_of_ble_eq_true rfl) rfl (s_X4_hasField ?_)
  rw [H.hf]
  refine r_if_eq (p := 12) rfl rfl (fun c1 => ?_) (fun c1 => ?_)
  · refine r_bipush (v := (-2)) (p := 22) rfl rfl rfl ?_
    have e : stF s i j t = (-2, s) := if_pos (fun z => absurd c1 (by rw [if_pos z.1]; decide))
    rw [e] at hQ
    refine r_ireturn rfl trivial ?_
    exact hQ F M H frC.rf
  · have hf : fldP s i j := Classical.byContradiction fun q => c1 (if_neg q)
    refine r_aload_n (p := 13) rfl rfl rfl ?_
    refine r_iload_n (p := 14) rfl rfl rfl ?_
    refine r_cV (p := 17) rfl rfl rfl (Nat.le_of_ble_eq_true rfl) rfl (s_X6_isTarget ?_)
    rw [H.tgt]
    refine r_if_ne (p := 20) rfl rfl (fun c2 => ?_) (fun c2 => ?_)
    · have ht : tgtP s t := Classical.byContradiction fun q => c2 (if_neg q)
      refine r_aload_n (p := 24) rfl rfl rfl ?_
      refine r_getR (p := 27) rfl rfl rfl rfl rfl ?_
      refine r_iload_n (p := 28) rfl rfl rfl ?_
      refine r_cV (p := 31) rfl rfl rfl (Nat.le_of_ble_eq_true rfl) rfl (s_X2_isDoomed ?_)
      rw [H.doom]
      refine r_if_eq (p := 34) rfl rfl (fun c3 => ?_) (fun c3 => ?_)
      · have hd : ¬ (sPh s = 2 ∧ whtP s t) := fun q => absurd c3 (by rw [if_pos q]; decide)
        refine r_aload_n (p := 38) rfl rfl rfl ?_
        refine r_getR (p := 41) rfl rfl rfl rfl rfl ?_
        refine r_iload_n (p := 42) rfl rfl rfl ?_
        refine r_iload_n (p := 43) rfl rfl rfl ?_
        refine r_cV (p := 46) rfl rfl rfl (Nat.le_of_ble_eq_true rfl) rfl (s_X4_fieldOf ?_)
        rw [H.fld hf.1 hf.2.1 (Int32.not_le.mpr (Int32.lt_of_lt_of_le hf.2.2 (by rw [← H.2.2.1 i hf.1.1]; exact H.f4 hI i hf.1.1))) hf.2.2]
        refine r_istore (p := 48) rfl rfl rfl ?_
        refine r_aload_n (p := 49) rfl rfl rfl ?_
        refine r_getR (p := 52) rfl rfl rfl rfl rfl ?_
        refine r_iload_n (p := 53) rfl rfl rfl ?_
        refine r_iload_n (p := 54) rfl rfl rfl ?_
        refine r_iload_n (p := 55) rfl rfl rfl ?_
        refine r_cV (p := 58) rfl rfl rfl (Nat.le_of_ble_eq_true rfl) rfl (s_X0_putField (H.f4 hI) H.2.2.2.2.2.2.2.1.s0 ?_)
        have H1 := H.putF (t := t) hf
        have I1 := Inv_stK (i := i) (j := j) hI ht
        refine r_aload_n (p := 59) rfl rfl rfl ?_
        refine r_getR (p := 62) rfl rfl rfl rfl rfl ?_
        refine r_iload_n (p := 63) rfl rfl rfl ?_
        refine r_cV (p := 66) rfl rfl rfl (Nat.le_of_ble_eq_true rfl) rfl (s_X2_noteStore H1.1.2.2.2.2.2.2.2.2.1.s0 ?_)
        have H2 := H1.1.note I1 t
        have e : stF s i j t = (sR s (4 * i + j), stB (stK s i j t) t) := by unfold stF; rw [if_neg (fun z => z ⟨hf, ht⟩), if_neg hd]
        rw [e] at hQ
        refine r_iload (p := 68) rfl rfl rfl ?_
        refine r_ireturn rfl trivial ?_
        exact hQ _ _ H2.1 (H1.2.tr H2.2)
      · refine r_bipush (v := (-3)) (p := 36) rfl rfl rfl ?_
        have hd : sPh s = 2 ∧ whtP s t := Classical.byContradiction fun q => c3 (if_neg q)
        have e : stF s i j t = (-3, s) := by unfold stF; rw [if_neg (fun z => z ⟨hf, ht⟩), if_pos hd]
        rw [e] at hQ
        refine r_ireturn rfl trivial ?_
        exact hQ F M H frC.rf
    · refine r_bipush (v := (-2)) (p := 22) rfl rfl rfl ?_
      have e : stF s i j t = (-2, s) := if_pos (fun z => absurd c2 (by rw [if_pos z.2]; decide))
      rw [e] at hQ
      refine r_ireturn rfl trivial ?_
      exact hQ F M H frC.rf
theorem hr_eq {F : mF} {M : mM} {k : Int32} : f_X0_hasRoot F M k = if ¬ k < 0 ∧ ¬ 3 < k then 1 else 0 := by
  unfold f_X0_hasRoot
  by_cases h1 : k < 0
  · rw [if_pos h1, if_neg (fun z => z.1 h1)]
  · rw [if_neg h1]
    obtain ⟨b, hb, rfl⟩ := nI_of h1
    by_cases h2 : (4 : Int32) ≤ nI b
    · rw [if_pos h2, if_neg (fun z => z.2 (nI_lt (a := 3) (b := b) ((nI_leI (a := 4) (by omega) hb).mp h2) hb))]
    · rw [if_neg h2, if_pos ⟨h1, fun z => h2 (nI_le (a := 4) (b := b) ((nI_ltI (a := 3) (by omega) hb).mp z) hb)⟩]
theorem RC.putR {s : mSt} {F : mF} {M : mM} (H : RC s F M) {k t : Int32} (hk : ¬ k < 0 ∧ ¬ 3 < k) : RC (wO s (up1 (sO s) k t)) F (gM_X0_putRoot F M k t) ∧ frC F M F (gM_X0_putRoot F M k t) := by
  unfold gM_X0_putRoot
  rw [hr_eq, if_pos hk, if_neg (by decide)]
  obtain ⟨c1, c2, c3, c4, c5, c6, l1, l2, l3, l4, e⟩ := H
  refine ⟨⟨c1, c2, c3, c4, c5, fun b hb => ?_, l1, l2, l3, l4, e⟩, fun _ _ _ => rfl, fun a k ha => uM_ne (by omega)⟩
  rw [uM_at]
  show _ = if nI b = k then t else sO s (nI b)
  rw [c6 b hb]
theorem RC.rtk {s : mSt} {F : mF} {M : mM} (H : RC s F M) {k : Int32} (hk : ¬ k < 0 ∧ ¬ 3 < k) : f_X0_rootAt F M k = sO s k := by
  obtain ⟨b, hb, rfl⟩ := nI_of hk.1
  refine H.rt (Nat.lt_of_not_le fun q => hk.2 (nI_lt (a := 3) q hb))
set_option maxRecDepth 100000 in
theorem s_X6_storeInRoot {d : Nat} {Y : mY} {F : mF} {M : mM} {L : mL} {s : mSt} {k t : Int32} {Q : Option Value → mW → Prop} (H : RC s F M) (hI : Inv s) (hQ : ∀ F' M', RC (stR s k t).2 F' M' → frC F M F' M' → Q (some (.int (stR s k t).1)) (mXY Y, F', M', L)) : Cw (d + 4) 209 [.ref 0, .int k, .int t] (mXY Y, F, M, L) Q := by
  refine Cw_in rfl rfl ?_
  refine r_aload_n (p := 1) rfl rfl rfl ?_
  refine r_getR (p := 4) rfl rfl rfl rfl rfl ?_
  refine r_iload_n (p := 5) rfl rfl rfl ?_
  refine r_cV (p := 8) rfl rfl rfl (Nat.le_of_ble_eq_true rfl) rfl (s_X0_hasRoot ?_)
  rw [hr_eq]
  refine r_if_eq (p := 11) rfl rfl (fun c1 => ?_) (fun c1 => ?_)
  · refine r_bipush (v := (-2)) (p := 21) rfl rfl rfl ?_
    have e : stR s k t = (-2, s) := if_pos (fun z => absurd c1 (by rw [if_pos z.1]; decide))
    rw [e] at hQ
    refine r_ireturn rfl trivial ?_
    exact hQ F M H frC.rf
  · have hf : ¬ k < 0 ∧ ¬ 3 < k := Classical.byContradiction fun q => c1 (if_neg q)
    refine r_aload_n (p := 12) rfl rfl rfl ?_
    refine r_iload_n (p := 13) rfl rfl rfl ?_
    refine r_cV (p := 16) rfl rfl rfl (Nat.le_of_ble_eq_true rfl) rfl (s_X6_isTarget ?_)
    rw [H.tgt]
    refine r_if_ne (p := 19) rfl rfl (fun c2 => ?_) (fun c2 => ?_)
    · have ht : tgtP s t := Classical.byContradiction fun q => c2 (if_neg q)
      refine r_aload_n (p := 23) rfl rfl rfl ?_
      refine r_getR (p := 26) rfl rfl rfl rfl rfl ?_
      refine r_iload_n (p := 27) rfl rfl rfl ?_
      refine r_cV (p := 30) rfl rfl rfl (Nat.le_of_ble_eq_true rfl) rfl (s_X2_isDoomed ?_)
      rw [H.doom]
      refine r_if_eq (p := 33) rfl rfl (fun c3 => ?_) (fun c3 => ?_)
      · have hd : ¬ (sPh s = 2 ∧ whtP s t) := fun q => absurd c3 (by rw [if_pos q]; decide)
        refine r_aload_n (p := 37) rfl rfl rfl ?_
        refine r_getR (p := 40) rfl rfl rfl rfl rfl ?_
        refine r_iload_n (p := 41) rfl rfl rfl ?_
        refine r_cV (p := 44) rfl rfl rfl (Nat.le_of_ble_eq_true rfl) rfl (s_X0_rootAt ?_)
        rw [H.rtk hf]
        refine r_istore_n (p := 45) rfl rfl rfl ?_
        refine r_aload_n (p := 46) rfl rfl rfl ?_
        refine r_getR (p := 49) rfl rfl rfl rfl rfl ?_
        refine r_iload_n (p := 50) rfl rfl rfl ?_
        refine r_iload_n (p := 51) rfl rfl rfl ?_
        refine r_cV (p := 54) rfl rfl rfl (Nat.le_of_ble_eq_true rfl) rfl (s_X0_putRoot ?_)
        have H1 := H.putR (t := t) hf
        have I1 : Inv (wO s (up1 (sO s) k t)) := by
          obtain ⟨h1, h2, h3, h4, h5, h6⟩ := hI
          refine ⟨h1, h2, h3, h4, fun x => ?_, h6⟩
          show (if x = k then t else sO s x) = -1 ∨ inR (if x = k then t else sO s x)
          split
          · exact tgt_in ht
          · exact h5 x
        refine r_aload_n (p := 55) rfl rfl rfl ?_
        refine r_getR (p := 58) rfl rfl rfl rfl rfl ?_
        refine r_iload_n (p := 59) rfl rfl rfl ?_
        refine r_cV (p := 62) rfl rfl rfl (Nat.le_of_ble_eq_true rfl) rfl (s_X2_noteStore H1.1.2.2.2.2.2.2.2.2.1.s0 ?_)
        have H2 := H1.1.note I1 t
        have e : stR s k t = (sO s k, stB (wO s (up1 (sO s) k t)) t) := by unfold stR; rw [if_neg (fun z => z ⟨hf, ht⟩), if_neg hd]
        rw [e] at hQ
        refine r_iload_n (p := 63) rfl rfl rfl ?_
        refine r_ireturn rfl trivial ?_
        exact hQ _ _ H2.1 (H1.2.tr H2.2)
      · refine r_bipush (v := (-3)) (p := 35) rfl rfl rfl ?_
        have hd : sPh s = 2 ∧ whtP s t := Classical.byContradiction fun q => c3 (if_neg q)
        have e : stR s k t = (-3, s) := by unfold stR; rw [if_neg (fun z => z ⟨hf, ht⟩), if_pos hd]
        rw [e] at hQ
        refine r_ireturn rfl trivial ?_
        exact hQ F M H frC.rf
    · refine r_bipush (v := (-2)) (p := 21) rfl rfl rfl ?_
      have e : stR s k t = (-2, s) := if_pos (fun z => absurd c2 (by rw [if_pos z.2]; decide))
      rw [e] at hQ
      refine r_ireturn rfl trivial ?_
      exact hQ F M H frC.rf
