def VS (l : List Int32) (F : mF) (M : mM) : Prop := LL (F 34 29) (M 48) l ∧ l.Nodup ∧ (∀ x ∈ l, inR x) ∧ ∀ i, inR i → M 49 i = if i ∈ l then 1 else 0
theorem VS.len {l : List Int32} {F : mF} {M : mM} (h : VS l F M) : l.length ≤ 100 := nd_le100 h.2.1 h.2.2.1
theorem RR.vs {s : mSt} {F : mF} {M : mM} (H : RR s F M) {x i y z w : Int32} : RR s (uF F 34 29 x) (uM (uM M 49 i y) 48 z w) := H
theorem VS.push {l : List Int32} {F : mF} {M : mM} {v : Int32} (h : VS l F M) (hv : inR v) (hm : v ∉ l) : VS (l ++ [v]) (uF F 34 29 (F 34 29 + 1)) (uM (uM M 49 v 1) 48 (F 34 29) v) := by
  have hl := len99 h.2.1 h.2.2.1 hv hm
  refine ⟨h.1.app (by omega) v, nd_app h.2.1 hm, fun x hx => ?_, fun i hi => ?_⟩
  · rcases List.mem_append.mp hx with z | z
    · exact h.2.2.1 x z
    · rw [List.mem_singleton.mp z]; exact hv
  · show (if i = v then 1 else M 49 i) = _
    by_cases e : i = v
    · rw [if_pos e, if_pos (by simp [e])]
    · rw [if_neg e, h.2.2.2 i hi]; simp [e]
set_option maxRecDepth 100000 in
theorem s_X7_visit {d : Nat} {Y : mY} {F : mF} {M : mM} {L : mL} {s : mSt} {v : Int32} {l : List Int32} {Q : Option Value → mW → Prop} (H : RR s F M) (hV : VS l F M) (hv : ¬ v = -1 → inR v) (hQ : ∀ F' M', RR s F' M' → VS (vis s l v) F' M' → frR F M F' M' → Q none (mXY Y, F', M', L)) : Cw (d + 2) 18 [.ref 34, .int v] (mXY Y, F, M, L) Q := by
  refine Cw_in rfl rfl ?_
  refine r_aload_n (p := 1) rfl rfl rfl ?_
  refine r_iload_n (p := 2) rfl rfl rfl ?_
  refine r_cV (p := 5) rfl rfl rfl (Nat.le_of_ble_eq_true rfl) rfl (s_X7_isYoung hv ?_)
  rw [H.yng hv]
  refine r_if_eq (p := 8) rfl rfl (fun c1 => ?_) (fun c1 => ?_)
  · have hy : ¬ yngP s v := fun q => absurd c1 (by rw [if_pos q]; decide)
    have e : vis s l v = l := if_neg hy
    rw [e] at hQ
    refine r_return rfl ?_
    exact hQ F M H hV frR.rf
  · have hy : yngP s v := Classical.byContradiction fun q => c1 (if_neg q)
    refine r_aload_n (p := 9) rfl rfl rfl ?_
    refine r_getR (p := 12) rfl rfl rfl rfl rfl ?_
    refine r_iload_n (p := 13) rfl rfl rfl ?_
    refine r_zald (p := 14) rfl rfl rfl (vp100 hy.1) rfl ?_
    refine r_if_ne (p := 17) rfl rfl (fun c2 => ?_) (fun c2 => ?_)
    · have hm : v ∈ l := Classical.byContradiction fun q => c2 (by rw [hV.2.2.2 v hy.1, if_neg q])
      have e : vis s l v = l := by unfold vis addL; rw [if_pos hy, if_neg (fun z => z.2 hm)]
      rw [e] at hQ
      refine r_return rfl ?_
      exact hQ F M H hV frR.rf
    · have hm : v ∉ l := fun q => by rw [hV.2.2.2 v hy.1, if_pos q] at c2; exact absurd c2 (by decide)
      have hl := len99 hV.2.1 hV.2.2.1 hy.1 hm
      refine r_aload_n (p := 18) rfl rfl rfl ?_
      refine r_getR (p := 21) rfl rfl rfl rfl rfl ?_
      refine r_iload_n (p := 22) rfl rfl rfl ?_
      refine r_iconst (v := 1) (p := 23) rfl rfl rfl ?_
      refine r_zast (v := 1) (p := 24) rfl rfl rfl (vp100 hy.1) (by decide) (by decide) rfl ?_
      refine r_aload_n (p := 25) rfl rfl rfl ?_
      refine r_getR (p := 28) rfl rfl rfl rfl rfl ?_
      refine r_aload_n (p := 29) rfl rfl rfl ?_
      refine r_getI (p := 32) rfl rfl rfl rfl ?_
      refine r_iload_n (p := 33) rfl rfl rfl ?_
      refine r_iast (p := 34) rfl rfl rfl (by rw [hV.1.1]; exact vp_in_nI hl (by omega)) (by decide) rfl ?_
      refine r_aload_n (p := 35) rfl rfl rfl ?_
      refine r_dup (p := 36) rfl rfl rfl ?_
      refine r_getI (p := 39) rfl rfl rfl rfl ?_
      refine r_iconst (v := 1) (p := 40) rfl rfl rfl ?_
      refine r_iadd (p := 41) rfl rfl ?_
      refine r_putI (p := 44) rfl rfl rfl rfl ?_
      have e : vis s l v = l ++ [v] := by unfold vis; rw [if_pos hy]; exact addL_no hy.1 hm
      rw [e] at hQ
      refine r_return rfl ?_
      exact hQ _ _ H.vs (hV.push hy.1 hm) ((frR.m (by omega)).tr ((frR.m (by omega)).tr (frR.f (by omega))))
set_option maxRecDepth 100000 in
theorem lp_X7_visitFields {d : Nat} {Y : mY} {L : mL} {s : mSt} {v : Int32} {k : Nat} {Q : Option Value → mW → Prop} (hk : k ≤ 4) (hv : inR v) (hn : sN s v = nI k) (hr : ∀ k, sR s k = -1 ∨ inR (sR s k)) :
    ∀ (n j : Nat) (l : List Int32) (F : mF) (M : mM), j + n = k → RR s F M → VS l F M → (∀ F' M', RR s F' M' → VS (((seqI n j).map (fun j => sR s (4 * v + j))).foldl (vis s) l) F' M' → frR F M F' M' → Q none (mXY Y, F', M', L)) → Wp (d + 2) tX7_visitFields 2 [some (.ref 34), some (.int v), some (.int (nI j))] [] (mXY Y, F, M, L) Q
  | 0, j, l, F, M, hj, H, hl, hQ => by
    refine r_iload_n (p := 3) rfl rfl rfl ?_
    refine r_aload_n (p := 4) rfl rfl rfl ?_
    refine r_getR (p := 7) rfl rfl rfl rfl rfl ?_
    refine r_iload_n (p := 8) rfl rfl rfl ?_
    refine r_iald (p := 9) rfl rfl rfl (vp100 hv) rfl ?_
    rw [H.2.2.1 v hv, hn]
    refine r_icmp_ge (p := 12) rfl rfl (fun c1 => ?_) (fun c1 => ?_)
    · refine r_return rfl ?_
      exact hQ F M H hl frR.rf
    · exact absurd (nI_le (a := k) (b := j) (by omega) (by omega)) c1
  | n + 1, j, l, F, M, hj, H, hl, hQ => by
    have hx := nI_x (j := j) (k := k) (by omega) (by omega) hk
    have hx4 := Int32.not_le.mp hx.2.1
    refine r_iload_n (p := 3) rfl rfl rfl ?_
    refine r_aload_n (p := 4) rfl rfl rfl ?_
    refine r_getR (p := 7) rfl rfl rfl rfl rfl ?_
    refine r_iload_n (p := 8) rfl rfl rfl ?_
    refine r_iald (p := 9) rfl rfl rfl (vp100 hv) rfl ?_
    rw [H.2.2.1 v hv, hn]
    refine r_icmp_ge (p := 12) rfl rfl (fun c1 => ?_) (fun c1 => ?_)
    · exact absurd c1 (nI_ge (a := j) (b := k) (by omega) (by omega))
    · refine r_aload_n (p := 13) rfl rfl rfl ?_
      refine r_aload_n (p := 14) rfl rfl rfl ?_
      refine r_getR (p := 17) rfl rfl rfl rfl rfl ?_
      refine r_iconst (v := 4) (p := 18) rfl rfl rfl ?_
      refine r_iload_n (p := 19) rfl rfl rfl ?_
      refine r_imul (p := 20) rfl rfl ?_
      refine r_iload_n (p := 21) rfl rfl rfl ?_
      refine r_iadd (p := 22) rfl rfl ?_
      refine r_iald (p := 23) rfl rfl rfl (vp400 hv hx.1 hx4) rfl ?_
      rw [H.2.2.2.2.1 v (nI j) hv hx.1 hx4]
      refine r_cV (p := 26) rfl rfl rfl (Nat.le_of_ble_eq_true rfl) rfl (s_X7_visit H hl (neg1 (hr _)) (fun F1 M1 R1 I1 f1 => ?_))
      refine r_iinc (v := nI (j + 1)) (p := 29) rfl rfl (nI_1 j) rfl rfl ?_
      refine r_goto rfl ?_
      exact lp_X7_visitFields hk hv hn hr n (j + 1) _ _ _ (by omega) R1 I1 (fun F' M' R I f => hQ F' M' R I (f1.tr f))
set_option maxRecDepth 100000 in
theorem s_X7_visitFields {d : Nat} {Y : mY} {F : mF} {M : mM} {L : mL} {v : Int32} {s : mSt} {l : List Int32} {Q : Option Value → mW → Prop} (H : RR s F M) (hI : Inv s) (hv : inR v) (hl : VS l F M) (hQ : ∀ F' M', RR s F' M' → VS (visF s l v) F' M' → frR F M F' M' → Q none (mXY Y, F', M', L)) : Cw (d + 3) 19 [.ref 34, .int v] (mXY Y, F, M, L) Q := by
  obtain ⟨k, hk, hn⟩ := hI.2.2.1 v hv
  refine Cw_in rfl rfl ?_
  refine r_iconst (v := 0) (p := 1) rfl rfl rfl ?_
  refine r_istore_n (p := 2) rfl rfl rfl ?_
  refine lp_X7_visitFields hk hv hn hI.2.2.2.1 k 0 l F M (by omega) H hl (fun F' M' R I f => hQ F' M' R ?_ f)
  unfold visF flds
  rw [hn, nI_clamp (by omega)]
  exact I
set_option maxRecDepth 100000 in
theorem lp_X7_trace0 {d : Nat} {Y : mY} {L : mL} {F : mF} {M0 : mM} {Q : Option Value → mW → Prop} (hQ : ∀ M' l1, (∀ a i, a ≠ 49 → M' a i = M0 a i) → (∀ i, inR i → M' 49 i = 0) → Wp (d + 3) tX7_trace 26 [some (.ref 34), some l1] [] (mXY Y, F, M', L) Q) :
    ∀ (n j : Nat) (M : mM), j + n = 100 → (∀ a i, a ≠ 49 → M a i = M0 a i) → (∀ i, i < j → M 49 (nI i) = 0) → Wp (d + 3) tX7_trace 7 [some (.ref 34), some (.int (nI j))] [] (mXY Y, F, M, L) Q
  | 0, j, M, hj, i1, i2 => by
    refine r_iload_n (p := 8) rfl rfl rfl ?_
    refine r_bipush (v := 100) (p := 10) rfl rfl rfl ?_
    refine r_icmp_ge (p := 13) rfl rfl (fun c1 => ?_) (fun c1 => ?_)
    · exact hQ M _ i1 (fun i hi => by obtain ⟨q, hq, rfl⟩ := inR_of hi; exact i2 q (by omega))
    · exact absurd (nI_le (a := 100) (b := j) (by omega) (by omega)) c1
  | n + 1, j, M, hj, i1, i2 => by
    refine r_iload_n (p := 8) rfl rfl rfl ?_
    refine r_bipush (v := 100) (p := 10) rfl rfl rfl ?_
    refine r_icmp_ge (p := 13) rfl rfl (fun c1 => ?_) (fun c1 => ?_)
    · exact absurd c1 (nI_ge (a := j) (b := 100) (by omega) (by omega))
    · refine r_aload_n (p := 14) rfl rfl rfl ?_
      refine r_getR (p := 17) rfl rfl rfl rfl rfl ?_
      refine r_iload_n (p := 18) rfl rfl rfl ?_
      refine r_iconst (v := 0) (p := 19) rfl rfl rfl ?_
      refine r_zast (v := 0) (p := 20) rfl rfl rfl (vp_in_nI (show j < 100 by omega) (by omega)) (by decide) (by decide) rfl ?_
      refine r_iinc (v := nI (j + 1)) (p := 23) rfl rfl (nI_1 j) rfl rfl ?_
      refine r_goto rfl ?_
      refine lp_X7_trace0 hQ n (j + 1) _ (by omega) (fun a i ha => by rw [uM_ne ha]; exact i1 a i ha) (fun i hi => ?_)
      rw [uM_at]
      split
      · rfl
      · rename_i q; exact i2 i (Nat.lt_of_le_of_ne (by omega) (fun e => q (by rw [e])))
set_option maxRecDepth 100000 in
theorem lp_X7_trace1 {d : Nat} {Y : mY} {L : mL} {s : mSt} {Q : Option Value → mW → Prop} (hI : Inv s) :
    ∀ (n j : Nat) (l : List Int32) (F : mF) (M : mM), j + n = 4 → RR s F M → VS l F M → (∀ F' M' l1, RR s F' M' → VS (((seqI n j).map (sO s)).foldl (vis s) l) F' M' → frR F M F' M' → Wp (d + 3) tX7_trace 49 [some (.ref 34), some l1] [] (mXY Y, F', M', L) Q) → Wp (d + 3) tX7_trace 28 [some (.ref 34), some (.int (nI j))] [] (mXY Y, F, M, L) Q
  | 0, j, l, F, M, hj, H, hl, hQ => by
    refine r_iload_n (p := 29) rfl rfl rfl ?_
    refine r_iconst (v := 4) (p := 30) rfl rfl rfl ?_
    refine r_icmp_ge (p := 33) rfl rfl (fun c1 => ?_) (fun c1 => ?_)
    · exact hQ F M _ H hl frR.rf
    · exact absurd (nI_le (a := 4) (b := j) (by omega) (by omega)) c1
  | n + 1, j, l, F, M, hj, H, hl, hQ => by
    refine r_iload_n (p := 29) rfl rfl rfl ?_
    refine r_iconst (v := 4) (p := 30) rfl rfl rfl ?_
    refine r_icmp_ge (p := 33) rfl rfl (fun c1 => ?_) (fun c1 => ?_)
    · exact absurd c1 (nI_ge (a := j) (b := 4) (by omega) (by omega))
    · refine r_aload_n (p := 34) rfl rfl rfl ?_
      refine r_aload_n (p := 35) rfl rfl rfl ?_
      refine r_getR (p := 38) rfl rfl rfl rfl rfl ?_
      refine r_iload_n (p := 39) rfl rfl rfl ?_
      refine r_iald (p := 40) rfl rfl rfl (vp_in_nI (show j < 4 by omega) (by omega)) rfl ?_
      rw [H.2.2.2.2.2.1 j (by omega)]
      refine r_cV (p := 43) rfl rfl rfl (Nat.le_of_ble_eq_true rfl) rfl (s_X7_visit H hl (neg1 (hI.2.2.2.2.1 _)) (fun F1 M1 R1 I1 f1 => ?_))
      refine r_iinc (v := nI (j + 1)) (p := 46) rfl rfl (nI_1 j) rfl rfl ?_
      refine r_goto rfl ?_
      exact lp_X7_trace1 hI n (j + 1) _ _ _ (by omega) R1 I1 (fun F' M' l1 R I f => hQ F' M' l1 R I (f1.tr f))
set_option maxRecDepth 100000 in
theorem lp_X7_trace2 {d : Nat} {Y : mY} {L : mL} {s : mSt} {Q : Option Value → mW → Prop} (hI : Inv s) :
    ∀ (t : List Int32) (j : Nat) (l : List Int32) (F : mF) (M : mM), (sKn s).drop j = t → j ≤ (sKn s).length → RR s F M → VS l F M → (∀ F' M' l1, RR s F' M' → VS (t.foldl (visF s) l) F' M' → frR F M F' M' → Wp (d + 3) tX7_trace 75 [some (.ref 34), some l1] [] (mXY Y, F', M', L) Q) → Wp (d + 3) tX7_trace 51 [some (.ref 34), some (.int (nI j))] [] (mXY Y, F, M, L) Q
  | [], j, l, F, M, hj, hjl, H, hl, hQ => by
    have hd : (sKn s).length ≤ j := List.drop_eq_nil_iff.mp hj
    have hN := H.2.2.2.2.2.2.2.1
    have hL := hI.knl
    refine r_iload_n (p := 52) rfl rfl rfl ?_
    refine r_aload_n (p := 53) rfl rfl rfl ?_
    refine r_getI (p := 56) rfl rfl rfl rfl ?_
    rw [hN.1]
    refine r_icmp_ge (p := 59) rfl rfl (fun c1 => ?_) (fun c1 => ?_)
    · exact hQ F M _ H hl frR.rf
    · exact absurd (nI_le hd (by omega)) c1
  | x :: t, j, l, F, M, hj, hjl, H, hl, hQ => by
    have hN := H.2.2.2.2.2.2.2.1
    have hL := hI.knl
    obtain ⟨hd, hx, ht⟩ := drop_c (z := 0) hj
    have hv : oldP s x := hI.2.2.2.2.2.2.1.2 x (by rw [← hx]; exact getD_mem hd)
    refine r_iload_n (p := 52) rfl rfl rfl ?_
    refine r_aload_n (p := 53) rfl rfl rfl ?_
    refine r_getI (p := 56) rfl rfl rfl rfl ?_
    rw [hN.1]
    refine r_icmp_ge (p := 59) rfl rfl (fun c1 => ?_) (fun c1 => ?_)
    · exact absurd c1 (nI_ge hd (by omega))
    · refine r_aload_n (p := 60) rfl rfl rfl ?_
      refine r_aload_n (p := 61) rfl rfl rfl ?_
      refine r_getR (p := 64) rfl rfl rfl rfl rfl ?_
      refine r_iload_n (p := 65) rfl rfl rfl ?_
      refine r_iald (p := 66) rfl rfl rfl (vp_in_nI (show j < 100 by omega) (by omega)) rfl ?_
      rw [hN.at hj]
      refine r_cV (p := 69) rfl rfl rfl (Nat.le_of_ble_eq_true rfl) rfl (s_X7_visitFields H hI hv.1 hl (fun F1 M1 R1 I1 f1 => ?_))
      refine r_iinc (v := nI (j + 1)) (p := 72) rfl rfl (nI_1 j) rfl rfl ?_
      refine r_goto rfl ?_
      exact lp_X7_trace2 hI t (j + 1) _ _ _ ht hd R1 I1 (fun F' M' l1 R I f => hQ F' M' l1 R I (f1.tr f))
set_option maxRecDepth 100000 in
theorem lp_X7_trace3 {d : Nat} {Y : mY} {L : mL} {s : mSt} {Q : Option Value → mW → Prop} (hI : Inv s) :
    ∀ (n j : Nat) (l : List Int32) (F : mF) (M : mM), j + n = 101 → RR s F M → VS l F M → (∀ F' M', RR s F' M' → VS (bfs (visF s) n j l) F' M' → frR F M F' M' → Q none (mXY Y, F', M', L)) → Wp (d + 3) tX7_trace 77 [some (.ref 34), some (.int (nI j))] [] (mXY Y, F, M, L) Q
  | 0, j, l, F, M, hj, H, hl, hQ => by
    have hL := hl.len
    refine r_iload_n (p := 78) rfl rfl rfl ?_
    refine r_aload_n (p := 79) rfl rfl rfl ?_
    refine r_getI (p := 82) rfl rfl rfl rfl ?_
    rw [hl.1.1]
    refine r_icmp_ge (p := 85) rfl rfl (fun c1 => ?_) (fun c1 => ?_)
    · refine r_return rfl ?_
      exact hQ F M H hl frR.rf
    · exact absurd (nI_le (a := l.length) (b := j) (by omega) (by omega)) c1
  | n + 1, j, l, F, M, hj, H, hl, hQ => by
    have hL := hl.len
    refine r_iload_n (p := 78) rfl rfl rfl ?_
    refine r_aload_n (p := 79) rfl rfl rfl ?_
    refine r_getI (p := 82) rfl rfl rfl rfl ?_
    rw [hl.1.1]
    refine r_icmp_ge (p := 85) rfl rfl (fun c1 => ?_) (fun c1 => ?_)
    · have hd : ¬ j < l.length := fun q => absurd c1 (nI_ge (a := j) (b := l.length) q (by omega))
      rw [bfs, if_neg hd] at hQ
      refine r_return rfl ?_
      exact hQ F M H hl frR.rf
    · have hd : j < l.length := Nat.lt_of_not_le fun q => c1 (nI_le q (by omega))
      refine r_aload_n (p := 86) rfl rfl rfl ?_
      refine r_aload_n (p := 87) rfl rfl rfl ?_
      refine r_getR (p := 90) rfl rfl rfl rfl rfl ?_
      refine r_iload_n (p := 91) rfl rfl rfl ?_
      refine r_iald (p := 92) rfl rfl rfl (vp_in_nI (show j < 100 by omega) (by omega)) rfl ?_
      rw [hl.1.2 j hd]
      refine r_cV (p := 95) rfl rfl rfl (Nat.le_of_ble_eq_true rfl) rfl (s_X7_visitFields H hI (hl.2.2.1 _ (getD_mem hd)) hl (fun F1 M1 R1 I1 f1 => ?_))
      rw [bfs, if_pos hd] at hQ
      refine r_iinc (v := nI (j + 1)) (p := 98) rfl rfl (nI_1 j) rfl rfl ?_
      refine r_goto rfl ?_
      exact lp_X7_trace3 hI n (j + 1) _ _ _ (by omega) R1 I1 (fun F' M' R I f => hQ F' M' R I (f1.tr f))
set_option maxRecDepth 100000 in
theorem s_X7_trace {d : Nat} {Y : mY} {F : mF} {M : mM} {L : mL} {s : mSt} {Q : Option Value → mW → Prop} (H : RR s F M) (hI : Inv s) (hQ : ∀ F' M', RR s F' M' → VS (trc s) F' M' → frR F M F' M' → Q none (mXY Y, F', M', L)) : Cw (d + 4) 20 [.ref 34] (mXY Y, F, M, L) Q := by
  refine Cw_in rfl rfl ?_
  refine r_aload_n (p := 1) rfl rfl rfl ?_
  refine r_iconst (v := 0) (p := 2) rfl rfl rfl ?_
  refine r_putI (p := 5) rfl rfl rfl rfl ?_
  refine r_iconst (v := 0) (p := 6) rfl rfl rfl ?_
  refine r_istore_n (p := 7) rfl rfl rfl ?_
  refine lp_X7_trace0 (fun M0 l0 i1 i2 => ?_) 100 0 M rfl (fun _ _ _ => rfl) (fun i hi => absurd hi (Nat.not_lt_zero _))
  have H0 : RR s (uF F 34 29 0) M0 := by
    obtain ⟨k1, k2, k3, k4, k5, k6, l1, l2, l3, l4, e⟩ := H
    exact ⟨fun i hi => by rw [i1 _ _ (by omega)]; exact k1 i hi, fun i hi => by rw [i1 _ _ (by omega)]; exact k2 i hi, fun i hi => by rw [i1 _ _ (by omega)]; exact k3 i hi, fun i hi a b => by rw [i1 _ _ (by omega)]; exact k4 i hi a b, fun i j hi a b => by rw [i1 _ _ (by omega)]; exact k5 i j hi a b, fun k hk => by rw [i1 _ _ (by omega)]; exact k6 k hk, ⟨l1.1, fun q hq => by rw [i1 _ _ (by omega)]; exact l1.2 q hq⟩, ⟨l2.1, fun q hq => by rw [i1 _ _ (by omega)]; exact l2.2 q hq⟩, ⟨l3.1, fun q hq => by rw [i1 _ _ (by omega)]; exact l3.2 q hq⟩, ⟨l4.1, fun q hq => by rw [i1 _ _ (by omega)]; exact l4.2 q hq⟩, e⟩
  have V0 : VS [] (uF F 34 29 0) M0 := ⟨LL.nil, List.nodup_nil, (fun x hx => by cases hx), fun i hi => by rw [i2 i hi]; simp⟩
  have f0 : frR F M (uF F 34 29 0) M0 := ⟨(frR.f (F := F) (M := M) (k := 29) (by omega)).1, fun a i ha => i1 a i (by omega)⟩
  refine r_iconst (v := 0) (p := 27) rfl rfl rfl ?_
  refine r_istore_n (p := 28) rfl rfl rfl ?_
  refine lp_X7_trace1 hI 4 0 [] _ M0 rfl H0 V0 (fun F1 M1 l1 H1 V1 f1 => ?_)
  have e : ((seqI 4 0).map (sO s)).foldl (vis s) [] = (rts s).foldl (vis s) [] := rfl
  rw [e] at V1
  refine r_iconst (v := 0) (p := 50) rfl rfl rfl ?_
  refine r_istore_n (p := 51) rfl rfl rfl ?_
  refine lp_X7_trace2 hI (sKn s) 0 _ F1 M1 rfl (Nat.zero_le _) H1 V1 (fun F2 M2 l2 H2 V2 f2 => ?_)
  refine r_iconst (v := 0) (p := 76) rfl rfl rfl ?_
  refine r_istore_n (p := 77) rfl rfl rfl ?_
  exact lp_X7_trace3 hI 101 0 _ F2 M2 rfl H2 V2 (fun F' M' R I f => hQ F' M' R I (f0.tr (f1.tr (f2.tr f))))
