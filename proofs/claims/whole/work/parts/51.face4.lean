/-! ===== the reference's calls ===== -/
def MT (l : List Int32) (M : mM) : Prop := (∀ k, k < l.length → M 51 (nI k) = l.getD k 0) ∧ l.Nodup ∧ (∀ x ∈ l, inR x) ∧ ∀ i, inR i → M 50 i = if i ∈ l then 1 else 0
theorem MT.len {l : List Int32} {M : mM} (h : MT l M) : l.length ≤ 100 := nd_le100 h.2.1 h.2.2.1
theorem MT.push {l : List Int32} {M : mM} {v : Int32} (h : MT l M) (hv : inR v) (hm : v ∉ l) : MT (l ++ [v]) (uM (uM M 50 v 1) 51 (nI l.length) v) := by
  have hl := len99 h.2.1 h.2.2.1 hv hm
  have hL : LL (nI l.length) (M 51) l := ⟨rfl, h.1⟩
  refine ⟨(hL.app (by omega) v).2, nd_app h.2.1 hm, fun x hx => ?_, fun i hi => ?_⟩
  · rcases List.mem_append.mp hx with z | z
    · exact h.2.2.1 x z
    · rw [List.mem_singleton.mp z]; exact hv
  · show (if i = v then 1 else M 50 i) = _
    by_cases e : i = v
    · rw [if_pos e, if_pos (by simp [e])]
    · rw [if_neg e, h.2.2.2 i hi]; simp [e]
set_option maxRecDepth 100000 in
theorem s_X7_meets {d : Nat} {Y : mY} {F : mF} {M : mM} {L : mL} {s : mSt} {v : Int32} {l : List Int32} {Q : Option Value → mW → Prop} (H : RR s F M) (hI : Inv s) (hV : MT l M) (hQ : ∀ M', RR s F M' → MT (rch s l v) M' → frR F M F M' → Q (some (.int (nI (rch s l v).length))) (mXY Y, F, M', L)) : Cw (d + 3) 40 [.ref 34, .int v, .int (nI l.length)] (mXY Y, F, M, L) Q := by
  refine Cw_in rfl rfl ?_
  refine r_aload_n (p := 1) rfl rfl rfl ?_
  refine r_iload_n (p := 2) rfl rfl rfl ?_
  refine r_cV (p := 5) rfl rfl rfl (Nat.le_of_ble_eq_true rfl) rfl (s_X7_isThere H hI ?_)
  refine r_if_eq (p := 8) rfl rfl (fun c1 => ?_) (fun c1 => ?_)
  · refine r_iload_n (p := 18) rfl rfl rfl ?_
    have hy : ¬ liveP s v := fun q => absurd c1 (by rw [if_pos q]; decide)
    have e : rch s l v = l := if_neg hy
    rw [e] at hQ
    refine r_ireturn rfl trivial ?_
    exact hQ M H hV frR.rf
  · have hy : liveP s v := Classical.byContradiction fun q => c1 (if_neg q)
    refine r_aload_n (p := 9) rfl rfl rfl ?_
    refine r_getR (p := 12) rfl rfl rfl rfl rfl ?_
    refine r_iload_n (p := 13) rfl rfl rfl ?_
    refine r_zald (p := 14) rfl rfl rfl (vp100 hy.1) rfl ?_
    refine r_if_eq (p := 17) rfl rfl (fun c2 => ?_) (fun c2 => ?_)
    · have hm : v ∉ l := fun q => by rw [hV.2.2.2 v hy.1, if_pos q] at c2; exact absurd c2 (by decide)
      have hl := len99 hV.2.1 hV.2.2.1 hy.1 hm
      refine r_aload_n (p := 20) rfl rfl rfl ?_
      refine r_getR (p := 23) rfl rfl rfl rfl rfl ?_
      refine r_iload_n (p := 24) rfl rfl rfl ?_
      refine r_iconst (v := 1) (p := 25) rfl rfl rfl ?_
      refine r_zast (v := 1) (p := 26) rfl rfl rfl (vp100 hy.1) (by decide) (by decide) rfl ?_
      refine r_aload_n (p := 27) rfl rfl rfl ?_
      refine r_getR (p := 30) rfl rfl rfl rfl rfl ?_
      refine r_iload_n (p := 31) rfl rfl rfl ?_
      refine r_iload_n (p := 32) rfl rfl rfl ?_
      refine r_iast (p := 33) rfl rfl rfl (vp_in_nI hl (by omega)) (by decide) rfl ?_
      refine r_iload_n (p := 34) rfl rfl rfl ?_
      refine r_iconst (v := 1) (p := 35) rfl rfl rfl ?_
      refine r_iadd (p := 36) rfl rfl ?_
      have e : rch s l v = l ++ [v] := by unfold rch; rw [if_pos hy]; exact addL_no hy.1 hm
      rw [e] at hQ
      have z := hQ _ (H.fr (fun _ _ => rfl) (fun a i _ _ => (uM_ne (by omega)).trans (uM_ne (by omega)))) (hV.push hy.1 hm) ((frR.m (by omega)).tr (frR.m (by omega)))
      rw [show nI (l ++ [v]).length = nI l.length + 1 by rw [nI_1]; simp] at z
      refine r_ireturn rfl trivial ?_
      exact z
    · refine r_iload_n (p := 18) rfl rfl rfl ?_
      have hm : v ∈ l := Classical.byContradiction fun q => c2 (by rw [hV.2.2.2 v hy.1, if_neg q])
      have e : rch s l v = l := by unfold rch addL; rw [if_pos hy, if_neg (fun z => z.2 hm)]
      rw [e] at hQ
      refine r_ireturn rfl trivial ?_
      exact hQ M H hV frR.rf
set_option maxRecDepth 100000 in
theorem lp_X7_reach0 {d : Nat} {Y : mY} {L : mL} {F : mF} {M0 : mM} {Q : Option Value → mW → Prop} (hQ : ∀ M' l1, (∀ a i, a ≠ 50 → M' a i = M0 a i) → (∀ i, inR i → M' 50 i = 0) → Wp (d + 3) tX7_reachableCount 21 [some (.ref 34), some l1, none, none] [] (mXY Y, F, M', L) Q) :
    ∀ (n j : Nat) (M : mM), j + n = 100 → (∀ a i, a ≠ 50 → M a i = M0 a i) → (∀ i, i < j → M 50 (nI i) = 0) → Wp (d + 3) tX7_reachableCount 2 [some (.ref 34), some (.int (nI j)), none, none] [] (mXY Y, F, M, L) Q
  | 0, j, M, hj, i1, i2 => by
    refine r_iload_n (p := 3) rfl rfl rfl ?_
    refine r_bipush (v := 100) (p := 5) rfl rfl rfl ?_
    refine r_icmp_ge (p := 8) rfl rfl (fun c1 => ?_) (fun c1 => ?_)
    · exact hQ M _ i1 (fun i hi => by obtain ⟨q, hq, rfl⟩ := inR_of hi; exact i2 q (by omega))
    · exact absurd (nI_le (a := 100) (b := j) (by omega) (by omega)) c1
  | n + 1, j, M, hj, i1, i2 => by
    refine r_iload_n (p := 3) rfl rfl rfl ?_
    refine r_bipush (v := 100) (p := 5) rfl rfl rfl ?_
    refine r_icmp_ge (p := 8) rfl rfl (fun c1 => ?_) (fun c1 => ?_)
    · exact absurd c1 (nI_ge (a := j) (b := 100) (by omega) (by omega))
    · refine r_aload_n (p := 9) rfl rfl rfl ?_
      refine r_getR (p := 12) rfl rfl rfl rfl rfl ?_
      refine r_iload_n (p := 13) rfl rfl rfl ?_
      refine r_iconst (v := 0) (p := 14) rfl rfl rfl ?_
      refine r_zast (v := 0) (p := 15) rfl rfl rfl (vp_in_nI (show j < 100 by omega) (by omega)) (by decide) (by decide) rfl ?_
      refine r_iinc (v := nI (j + 1)) (p := 18) rfl rfl (nI_1 j) rfl rfl ?_
      refine r_goto rfl ?_
      refine lp_X7_reach0 hQ n (j + 1) _ (by omega) (fun a i ha => by rw [uM_ne ha]; exact i1 a i ha) (fun i hi => ?_)
      rw [uM_at]
      split
      · rfl
      · rename_i q; exact i2 i (Nat.lt_of_le_of_ne (by omega) (fun e => q (by rw [e])))
set_option maxRecDepth 100000 in
theorem lp_X7_reach1 {d : Nat} {Y : mY} {L : mL} {s : mSt} {F : mF} {Q : Option Value → mW → Prop} (hI : Inv s) :
    ∀ (n j : Nat) (l : List Int32) (M : mM), j + n = 4 → RR s F M → MT l M → (∀ M' l1, RR s F M' → MT (((seqI n j).map (sO s)).foldl (rch s) l) M' → frR F M F M' → Wp (d + 3) tX7_reachableCount 48 [some (.ref 34), some (.int (nI (((seqI n j).map (sO s)).foldl (rch s) l).length)), some l1, none] [] (mXY Y, F, M', L) Q) → Wp (d + 3) tX7_reachableCount 25 [some (.ref 34), some (.int (nI l.length)), some (.int (nI j)), none] [] (mXY Y, F, M, L) Q
  | 0, j, l, M, hj, H, hl, hQ => by
    refine r_iload_n (p := 26) rfl rfl rfl ?_
    refine r_iconst (v := 4) (p := 27) rfl rfl rfl ?_
    refine r_icmp_ge (p := 30) rfl rfl (fun c1 => ?_) (fun c1 => ?_)
    · exact hQ M _ H hl frR.rf
    · exact absurd (nI_le (a := 4) (b := j) (by omega) (by omega)) c1
  | n + 1, j, l, M, hj, H, hl, hQ => by
    refine r_iload_n (p := 26) rfl rfl rfl ?_
    refine r_iconst (v := 4) (p := 27) rfl rfl rfl ?_
    refine r_icmp_ge (p := 30) rfl rfl (fun c1 => ?_) (fun c1 => ?_)
    · exact absurd c1 (nI_ge (a := j) (b := 4) (by omega) (by omega))
    · refine r_aload_n (p := 31) rfl rfl rfl ?_
      refine r_aload_n (p := 32) rfl rfl rfl ?_
      refine r_getR (p := 35) rfl rfl rfl rfl rfl ?_
      refine r_iload_n (p := 36) rfl rfl rfl ?_
      refine r_iald (p := 37) rfl rfl rfl (vp_in_nI (show j < 4 by omega) (by omega)) rfl ?_
      rw [H.2.2.2.2.2.1 j (by omega)]
      refine r_iload_n (p := 38) rfl rfl rfl ?_
      refine r_cV (p := 41) rfl rfl rfl (Nat.le_of_ble_eq_true rfl) rfl (s_X7_meets H hI hl (fun M1 R1 I1 f1 => ?_))
      refine r_istore_n (p := 42) rfl rfl rfl ?_
      refine r_iinc (v := nI (j + 1)) (p := 45) rfl rfl (nI_1 j) rfl rfl ?_
      refine r_goto rfl ?_
      exact lp_X7_reach1 hI n (j + 1) _ _ (by omega) R1 I1 (fun M' l1 R I f => hQ M' l1 R I (f1.tr f))
theorem rch_len {s : mSt} {l : List Int32} {v : Int32} {i : Nat} (h : i < l.length) : i < (rch s l v).length := by
  unfold rch addL
  split
  · split
    · simp; omega
    · exact h
  · exact h
theorem rch_get {s : mSt} {l : List Int32} {v : Int32} {i : Nat} (h : i < l.length) : (rch s l v).getD i 0 = l.getD i 0 := by
  unfold rch addL
  split
  · split
    · simp [List.getD_eq_getElem?_getD, List.getElem?_append_left h]
    · rfl
  · rfl
set_option maxRecDepth 100000 in
theorem lp_X7_reach2 {d : Nat} {Y : mY} {L : mL} {s : mSt} {F : mF} {v : Int32} {k i : Nat} {Q : Option Value → mW → Prop} (hI : Inv s) (hk : k ≤ 4) (hv : inR v) (hn : sN s v = nI k) (hi : i < 100) :
    ∀ (n j : Nat) (l : List Int32) (M : mM), j + n = k → RR s F M → MT l M → M 51 (nI i) = v → i < l.length → (∀ M' l1, RR s F M' → MT (((seqI n j).map (fun j => sR s (4 * v + j))).foldl (rch s) l) M' → frR F M F M' → Wp (d + 3) tX7_reachableCount 99 [some (.ref 34), some (.int (nI (((seqI n j).map (fun j => sR s (4 * v + j))).foldl (rch s) l).length)), some (.int (nI i)), some l1] [] (mXY Y, F, M', L) Q) → Wp (d + 3) tX7_reachableCount 57 [some (.ref 34), some (.int (nI l.length)), some (.int (nI i)), some (.int (nI j))] [] (mXY Y, F, M, L) Q
  | 0, j, l, M, hj, H, hl, hM, hil, hQ => by
    refine r_iload_n (p := 58) rfl rfl rfl ?_
    refine r_aload_n (p := 59) rfl rfl rfl ?_
    refine r_getR (p := 62) rfl rfl rfl rfl rfl ?_
    refine r_aload_n (p := 63) rfl rfl rfl ?_
    refine r_getR (p := 66) rfl rfl rfl rfl rfl ?_
    refine r_iload_n (p := 67) rfl rfl rfl ?_
    refine r_iald (p := 68) rfl rfl rfl (vp_in_nI hi (by omega)) rfl ?_
    rw [hM]
    refine r_iald (p := 69) rfl rfl rfl (vp100 hv) rfl ?_
    rw [H.2.2.1 v hv, hn]
    refine r_icmp_ge (p := 72) rfl rfl (fun c1 => ?_) (fun c1 => ?_)
    · exact hQ M _ H hl frR.rf
    · exact absurd (nI_le (a := k) (b := j) (by omega) (by omega)) c1
  | n + 1, j, l, M, hj, H, hl, hM, hil, hQ => by
    have hx := nI_x (j := j) (k := k) (by omega) (by omega) hk
    have hx4 := Int32.not_le.mp hx.2.1
    refine r_iload_n (p := 58) rfl rfl rfl ?_
    refine r_aload_n (p := 59) rfl rfl rfl ?_
    refine r_getR (p := 62) rfl rfl rfl rfl rfl ?_
    refine r_aload_n (p := 63) rfl rfl rfl ?_
    refine r_getR (p := 66) rfl rfl rfl rfl rfl ?_
    refine r_iload_n (p := 67) rfl rfl rfl ?_
    refine r_iald (p := 68) rfl rfl rfl (vp_in_nI hi (by omega)) rfl ?_
    rw [hM]
    refine r_iald (p := 69) rfl rfl rfl (vp100 hv) rfl ?_
    rw [H.2.2.1 v hv, hn]
    refine r_icmp_ge (p := 72) rfl rfl (fun c1 => ?_) (fun c1 => ?_)
    · exact absurd c1 (nI_ge (a := j) (b := k) (by omega) (by omega))
    · refine r_aload_n (p := 73) rfl rfl rfl ?_
      refine r_aload_n (p := 74) rfl rfl rfl ?_
      refine r_getR (p := 77) rfl rfl rfl rfl rfl ?_
      refine r_iconst (v := 4) (p := 78) rfl rfl rfl ?_
      refine r_aload_n (p := 79) rfl rfl rfl ?_
      refine r_getR (p := 82) rfl rfl rfl rfl rfl ?_
      refine r_iload_n (p := 83) rfl rfl rfl ?_
      refine r_iald (p := 84) rfl rfl rfl (vp_in_nI hi (by omega)) rfl ?_
      rw [hM]
      refine r_imul (p := 85) rfl rfl ?_
      refine r_iload_n (p := 86) rfl rfl rfl ?_
      refine r_iadd (p := 87) rfl rfl ?_
      refine r_iald (p := 88) rfl rfl rfl (vp400 hv hx.1 hx4) rfl ?_
      rw [H.2.2.2.2.1 v (nI j) hv hx.1 hx4]
      refine r_iload_n (p := 89) rfl rfl rfl ?_
      refine r_cV (p := 92) rfl rfl rfl (Nat.le_of_ble_eq_true rfl) rfl (s_X7_meets H hI hl (fun M1 R1 I1 f1 => ?_))
      refine r_istore_n (p := 93) rfl rfl rfl ?_
      refine r_iinc (v := nI (j + 1)) (p := 96) rfl rfl (nI_1 j) rfl rfl ?_
      refine r_goto rfl ?_
      exact lp_X7_reach2 hI hk hv hn hi n (j + 1) _ _ (by omega) R1 I1 (by rw [I1.1 i (rch_len hil), rch_get hil, ← hl.1 i hil]; exact hM) (rch_len hil) (fun M' l1 R I f => hQ M' l1 R I (f1.tr f))
set_option maxRecDepth 100000 in
theorem lp_X7_reach3 {d : Nat} {Y : mY} {L : mL} {s : mSt} {F : mF} {Q : Option Value → mW → Prop} (hI : Inv s) :
    ∀ (n j : Nat) (l : List Int32) (M : mM) (z : Option Value), j + n = 101 → RR s F M → MT l M → (∀ M', RR s F M' → frR F M F M' → Q (some (.int (nI (bfs (rchF s) n j l).length))) (mXY Y, F, M', L)) → Wp (d + 3) tX7_reachableCount 50 [some (.ref 34), some (.int (nI l.length)), some (.int (nI j)), z] [] (mXY Y, F, M, L) Q
  | 0, j, l, M, z, hj, H, hl, hQ => by
    have hL := hl.len
    refine r_iload_n (p := 51) rfl rfl rfl ?_
    refine r_iload_n (p := 52) rfl rfl rfl ?_
    refine r_icmp_ge (p := 55) rfl rfl (fun c1 => ?_) (fun c1 => ?_)
    · refine r_iload_n (p := 106) rfl rfl rfl ?_
      refine r_ireturn rfl trivial ?_
      exact hQ M H frR.rf
    · exact absurd (nI_le (a := l.length) (b := j) (by omega) (by omega)) c1
  | n + 1, j, l, M, z, hj, H, hl, hQ => by
    have hL := hl.len
    refine r_iload_n (p := 51) rfl rfl rfl ?_
    refine r_iload_n (p := 52) rfl rfl rfl ?_
    refine r_icmp_ge (p := 55) rfl rfl (fun c1 => ?_) (fun c1 => ?_)
    · refine r_iload_n (p := 106) rfl rfl rfl ?_
      have hd : ¬ j < l.length := fun q => absurd c1 (nI_ge (a := j) (b := l.length) q (by omega))
      rw [bfs, if_neg hd] at hQ
      refine r_ireturn rfl trivial ?_
      exact hQ M H frR.rf
    · refine r_iconst (v := 0) (p := 56) rfl rfl rfl ?_
      refine r_istore_n (p := 57) rfl rfl rfl ?_
      have hd : j < l.length := Nat.lt_of_not_le fun q => c1 (nI_le q (by omega))
      have hv := hl.2.2.1 _ (getD_mem (z := 0) hd)
      obtain ⟨k, hk, hn⟩ := hI.2.2.1 _ hv
      rw [bfs, if_pos hd] at hQ
      refine lp_X7_reach2 hI hk hv hn (by omega) k 0 l M (by omega) H hl (hl.1 j hd) hd (fun M1 l3 R1 I1 f1 => ?_)
      have e : ((seqI k 0).map (fun q => sR s (4 * l.getD j 0 + q))).foldl (rch s) l = rchF s l (l.getD j 0) := by unfold rchF flds; rw [hn, nI_clamp (by omega)]
      rw [e] at I1 ⊢
      refine r_iinc (v := nI (j + 1)) (p := 102) rfl rfl (nI_1 j) rfl rfl ?_
      refine r_goto rfl ?_
      exact lp_X7_reach3 hI n (j + 1) _ _ _ (by omega) R1 I1 (fun M' R f => hQ M' R (f1.tr f))
set_option maxRecDepth 100000 in
theorem s_X7_reachableCount {d : Nat} {Y : mY} {F : mF} {M : mM} {L : mL} {s : mSt} {Q : Option Value → mW → Prop} (H : RR s F M) (hI : Inv s) (hQ : ∀ M', RR s F M' → frR F M F M' → Q (some (.int (nI (rcc s).length))) (mXY Y, F, M', L)) : Cw (d + 4) 39 [.ref 34] (mXY Y, F, M, L) Q := by
  refine Cw_in rfl rfl ?_
  refine r_iconst (v := 0) (p := 1) rfl rfl rfl ?_
  refine r_istore_n (p := 2) rfl rfl rfl ?_
  refine lp_X7_reach0 (fun M0 l0 i1 i2 => ?_) 100 0 M rfl (fun _ _ _ => rfl) (fun i hi => absurd hi (Nat.not_lt_zero _))
  have H0 : RR s F M0 := H.fr (fun _ _ => rfl) (fun a i ha hb => i1 a i (by omega))
  have V0 : MT [] M0 := ⟨fun k hk => absurd hk (Nat.not_lt_zero _), List.nodup_nil, (fun x hx => by cases hx), fun i hi => by rw [i2 i hi]; simp⟩
  have f0 : frR F M F M0 := ⟨fun _ _ _ => rfl, fun a i ha => i1 a i (by omega)⟩
  refine r_iconst (v := 0) (p := 22) rfl rfl rfl ?_
  refine r_istore_n (p := 23) rfl rfl rfl ?_
  refine r_iconst (v := 0) (p := 24) rfl rfl rfl ?_
  refine r_istore_n (p := 25) rfl rfl rfl ?_
  refine lp_X7_reach1 hI 4 0 [] M0 rfl H0 V0 (fun M1 l1 H1 V1 f1 => ?_)
  have e : ((seqI 4 0).map (sO s)).foldl (rch s) [] = (rts s).foldl (rch s) [] := rfl
  rw [e] at V1 ⊢
  refine r_iconst (v := 0) (p := 49) rfl rfl rfl ?_
  refine r_istore_n (p := 50) rfl rfl rfl ?_
  exact lp_X7_reach3 hI 101 0 _ M1 _ rfl H1 V1 (fun M' R f => hQ M' R (f0.tr (f1.tr f)))
set_option maxRecDepth 100000 in
theorem s_X7_bareRoots {d : Nat} {Y : mY} {F : mF} {M : mM} {L : mL} {Q : Option Value → mW → Prop} (hQ : Q none (mXY Y, F, uM (uM (uM (uM M 40 0 (-1)) 40 1 (-1)) 40 2 (-1)) 40 3 (-1), L)) : Cw (d + 1) 1 [.ref 34] (mXY Y, F, M, L) Q := by
  refine Cw_in rfl rfl ?_
  refine r_iconst (v := 0) (p := 1) rfl rfl rfl ?_
  refine r_istore_n (p := 2) rfl rfl rfl ?_
  refine r_iload_n (p := 3) rfl rfl rfl ?_
  refine r_iconst (v := 4) (p := 4) rfl rfl rfl ?_
  refine r_icmp_ge (p := 7) rfl rfl (fun c => absurd c (by decide)) (fun _ => ?_)
  refine r_aload_n (p := 8) rfl rfl rfl ?_
  refine r_getR (p := 11) rfl rfl rfl rfl rfl ?_
  refine r_iload_n (p := 12) rfl rfl rfl ?_
  refine r_iconst (v := (-1)) (p := 13) rfl rfl rfl ?_
  refine r_iast (p := 14) rfl rfl rfl (vpi (v := 4) (by decide) rfl (by decide) (by decide)) (by decide) rfl ?_
  refine r_iinc (v := 1) (p := 17) rfl rfl rfl rfl rfl ?_
  refine r_goto rfl ?_
  refine r_iload_n (p := 3) rfl rfl rfl ?_
  refine r_iconst (v := 4) (p := 4) rfl rfl rfl ?_
  refine r_icmp_ge (p := 7) rfl rfl (fun c => absurd c (by decide)) (fun _ => ?_)
  refine r_aload_n (p := 8) rfl rfl rfl ?_
  refine r_getR (p := 11) rfl rfl rfl rfl rfl ?_
  refine r_iload_n (p := 12) rfl rfl rfl ?_
  refine r_iconst (v := (-1)) (p := 13) rfl rfl rfl ?_
  refine r_iast (p := 14) rfl rfl rfl (vpi (v := 4) (by decide) rfl (by decide) (by decide)) (by decide) rfl ?_
  refine r_iinc (v := 2) (p := 17) rfl rfl rfl rfl rfl ?_
  refine r_goto rfl ?_
  refine r_iload_n (p := 3) rfl rfl rfl ?_
  refine r_iconst (v := 4) (p := 4) rfl rfl rfl ?_
  refine r_icmp_ge (p := 7) rfl rfl (fun c => absurd c (by decide)) (fun _ => ?_)
  refine r_aload_n (p := 8) rfl rfl rfl ?_
  refine r_getR (p := 11) rfl rfl rfl rfl rfl ?_
  refine r_iload_n (p := 12) rfl rfl rfl ?_
  refine r_iconst (v := (-1)) (p := 13) rfl rfl rfl ?_
  refine r_iast (p := 14) rfl rfl rfl (vpi (v := 4) (by decide) rfl (by decide) (by decide)) (by decide) rfl ?_
  refine r_iinc (v := 3) (p := 17) rfl rfl rfl rfl rfl ?_
  refine r_goto rfl ?_
  refine r_iload_n (p := 3) rfl rfl rfl ?_
  refine r_iconst (v := 4) (p := 4) rfl rfl rfl ?_
  refine r_icmp_ge (p := 7) rfl rfl (fun c => absurd c (by decide)) (fun _ => ?_)
  refine r_aload_n (p := 8) rfl rfl rfl ?_
  refine r_getR (p := 11) rfl rfl rfl rfl rfl ?_
  refine r_iload_n (p := 12) rfl rfl rfl ?_
  refine r_iconst (v := (-1)) (p := 13) rfl rfl rfl ?_
  refine r_iast (p := 14) rfl rfl rfl (vpi (v := 4) (by decide) rfl (by decide) (by decide)) (by decide) rfl ?_
  refine r_iinc (v := 4) (p := 17) rfl rfl rfl rfl rfl ?_
  refine r_goto rfl ?_
  refine r_iload_n (p := 3) rfl rfl rfl ?_
  refine r_iconst (v := 4) (p := 4) rfl rfl rfl ?_
  refine r_icmp_ge (p := 7) rfl rfl (fun _ => ?_) (fun c => absurd c (by decide))
  exact r_return rfl hQ
theorem sumL_ind : ∀ {l S : List Int32}, S.Nodup → l.Nodup → (∀ x ∈ l, x ∈ S) → sumL (fun i => if i ∈ l then 1 else 0) S = nI l.length
  | [], S, _, _, _ => sumL_0 (fun x _ => if_neg (fun z => by cases z))
  | x :: t, S, hS, hl, hs => by
    have h2 := List.nodup_cons.mp hl
    have e := sumL_upd (h := fun i => if i ∈ t then 1 else 0) (i := x) (v := 1) hS (hs x List.mem_cons_self)
    rw [sumL_ind hS h2.2 (fun y hy => hs y (List.mem_cons_of_mem _ hy)), if_neg h2.1, Int32.sub_zero, nI_1] at e
    rw [List.length_cons, ← e]
    refine sumL_congr fun y _ => ?_
    show (if y ∈ x :: t then (1 : Int32) else 0) = if y = x then 1 else if y ∈ t then 1 else 0
    by_cases hy : y = x
    · rw [if_pos hy, if_pos (by rw [hy]; exact List.mem_cons_self)]
    · rw [if_neg hy]
      by_cases hz : y ∈ t
      · rw [if_pos hz, if_pos (List.mem_cons_of_mem _ hz)]
      · rw [if_neg hz, if_neg (fun q => (List.mem_cons.mp q).elim hy hz)]
theorem sumL_add {f g : Int32 → Int32} : ∀ {l : List Int32}, sumL (fun i => f i + g i) l = sumL f l + sumL g l
  | [] => by show (0 : Int32) = 0 + 0; decide
  | x :: t => by
    show f x + g x + sumL (fun i => f i + g i) t = f x + sumL f t + (g x + sumL g t)
    rw [sumL_add]
    grind
theorem there_eq {s : mSt} (hI : Inv s) : sumL (fun i => if sG s i = 0 then 0 else 1) (seqI 100 0) = nI (sNu s).length + cnt (sG s) 2 := by
  have e := sumL_ind (S := seqI 100 0) (seqI_nodup (by decide)) hI.2.2.2.2.2.1.1 (fun x hx => inR_mem ((hI.2.2.2.2.2.1.2 x).mp hx).1)
  rw [← e]
  unfold cnt
  rw [← sumL_add]
  refine sumL_congr fun x hx => ?_
  have hx := mem_inR hx
  by_cases h0 : sG s x = 0
  · simp only [if_pos h0, if_neg (show ¬ x ∈ sNu s from fun q => absurd (h0.symm.trans ((hI.2.2.2.2.2.1.2 x).mp q).2) (by decide)), if_neg (show ¬ sG s x = 2 by rw [h0]; decide)]
    rfl
  · simp only [if_neg h0]
    by_cases h1 : sG s x = 1
    · simp only [if_pos (show x ∈ sNu s from (hI.2.2.2.2.2.1.2 x).mpr ⟨hx, h1⟩), if_neg (show ¬ sG s x = 2 by rw [h1]; decide)]
      rfl
    · have h2 : sG s x = 2 := by
        rcases hI.2.1 x hx with q | q | q
        · exact absurd q h0
        · exact absurd q h1
        · exact q
      simp only [if_neg (show ¬ x ∈ sNu s from fun q => h1 ((hI.2.2.2.2.2.1.2 x).mp q).2), if_pos h2]
      rfl
set_option maxRecDepth 100000 in
theorem lp_X7_reset {d : Nat} {Y : mY} {L : mL} {F : mF} {M0 : mM} {x y z n : Int32} {Q : Option Value → mW → Prop} (hQ : ∀ M' l1, (∀ a i, a ≠ 35 → M' a i = M0 a i) → (∀ i, inR i → M' 35 i = 0) → Wp (d + 1) tX7_reset 69 [some (.ref 34), some (.int x), some (.int y), some (.int z), some (.int n), some l1] [] (mXY Y, F, M', L) Q) :
    ∀ (m j : Nat) (M : mM), j + m = 100 → (∀ a i, a ≠ 35 → M a i = M0 a i) → (∀ i, i < j → M 35 (nI i) = 0) → Wp (d + 1) tX7_reset 48 [some (.ref 34), some (.int x), some (.int y), some (.int z), some (.int n), some (.int (nI j))] [] (mXY Y, F, M, L) Q
  | 0, j, M, hj, i1, i2 => by
    refine r_iload (p := 50) rfl rfl rfl ?_
    refine r_bipush (v := 100) (p := 52) rfl rfl rfl ?_
    refine r_icmp_ge (p := 55) rfl rfl (fun c1 => ?_) (fun c1 => ?_)
    · exact hQ M _ i1 (fun i hi => by obtain ⟨q, hq, rfl⟩ := inR_of hi; exact i2 q (by omega))
    · exact absurd (nI_le (a := 100) (b := j) (by omega) (by omega)) c1
  | m + 1, j, M, hj, i1, i2 => by
    refine r_iload (p := 50) rfl rfl rfl ?_
    refine r_bipush (v := 100) (p := 52) rfl rfl rfl ?_
    refine r_icmp_ge (p := 55) rfl rfl (fun c1 => ?_) (fun c1 => ?_)
    · exact absurd c1 (nI_ge (a := j) (b := 100) (by omega) (by omega))
    · refine r_aload_n (p := 56) rfl rfl rfl ?_
      refine r_getR (p := 59) rfl rfl rfl rfl rfl ?_
      refine r_iload (p := 61) rfl rfl rfl ?_
      refine r_iconst (v := 0) (p := 62) rfl rfl rfl ?_
      refine r_iast (p := 63) rfl rfl rfl (vp_in_nI (show j < 100 by omega) (by omega)) (by decide) rfl ?_
      refine r_iinc (v := nI (j + 1)) (p := 66) rfl rfl (nI_1 j) rfl rfl ?_
      refine r_goto rfl ?_
      refine lp_X7_reset hQ m (j + 1) _ (by omega) (fun a i ha => by rw [uM_ne ha]; exact i1 a i ha) (fun i hi => ?_)
      rw [uM_at]
      split
      · rfl
      · rename_i q; exact i2 i (Nat.lt_of_le_of_ne (by omega) (fun e => q (by rw [e])))
set_option maxRecDepth 100000 in
theorem rs_reset {b : mBs} {x y z : Int32} (hI : Inv b.1) : RS 2 10 [.int x, .int y, .int z] b (.int (oRs b x y z).1) (oRs b x y z).2 := fun d Y F M L Q H hQ => by
  refine Cw_in rfl rfl ?_
  refine r_iload_n (p := 1) rfl rfl rfl ?_
  refine r_bipush (v := 8) (p := 3) rfl rfl rfl ?_
  refine r_bipush (v := 64) (p := 5) rfl rfl rfl ?_
  refine r_cS1 (p := 8) rfl rfl (Nat.le_of_ble_eq_true rfl) rfl (s_X7_in ?_)
  rw [in_eq]
  refine r_if_eq (p := 11) rfl rfl (fun c1 => ?_) (fun c1 => ?_)
  · refine r_aload_n (p := 33) rfl rfl rfl ?_
    refine r_bipush (v := (-2)) (p := 35) rfl rfl rfl ?_
    refine r_cV (p := 38) rfl rfl rfl (Nat.le_of_ble_eq_true rfl) rfl (s_X7_fail vpf2 ?_)
    rw [f_fail]
    have hq : x < 8 ∨ 64 < x := Classical.byContradiction fun q => absurd c1 (by rw [if_pos ⟨fun w => q (Or.inl w), fun w => q (Or.inr w)⟩]; decide)
    have e : oRs b x y z = (-2, bE b (-2)) := if_pos (Or.inl hq)
    rw [e] at hQ
    have z := H.cnt H.2.2.1 (-2)
    rw [eM_2] at z
    refine r_ireturn rfl trivial ?_
    exact hQ F _ L z.1 z.2
  · refine r_iload_n (p := 12) rfl rfl rfl ?_
    refine r_bipush (v := 16) (p := 14) rfl rfl rfl ?_
    refine r_sipush (v := 128) (p := 17) rfl rfl rfl ?_
    refine r_cS1 (p := 20) rfl rfl (Nat.le_of_ble_eq_true rfl) rfl (s_X7_in ?_)
    rw [in_eq]
    refine r_if_eq (p := 23) rfl rfl (fun c2 => ?_) (fun c2 => ?_)
    · refine r_aload_n (p := 33) rfl rfl rfl ?_
      refine r_bipush (v := (-2)) (p := 35) rfl rfl rfl ?_
      refine r_cV (p := 38) rfl rfl rfl (Nat.le_of_ble_eq_true rfl) rfl (s_X7_fail vpf2 ?_)
      rw [f_fail]
      have hq : y < 16 ∨ 128 < y := Classical.byContradiction fun q => absurd c2 (by rw [if_pos ⟨fun w => q (Or.inl w), fun w => q (Or.inr w)⟩]; decide)
      have e : oRs b x y z = (-2, bE b (-2)) := if_pos (Or.inr (Or.inl hq))
      rw [e] at hQ
      have z := H.cnt H.2.2.1 (-2)
      rw [eM_2] at z
      refine r_ireturn rfl trivial ?_
      exact hQ F _ L z.1 z.2
    · refine r_iload_n (p := 24) rfl rfl rfl ?_
      refine r_iconst (v := 1) (p := 25) rfl rfl rfl ?_
      refine r_iconst (v := 5) (p := 26) rfl rfl rfl ?_
      refine r_cS1 (p := 29) rfl rfl (Nat.le_of_ble_eq_true rfl) rfl (s_X7_in ?_)
      rw [in_eq]
      refine r_if_ne (p := 32) rfl rfl (fun c3 => ?_) (fun c3 => ?_)
      · refine r_aload_n (p := 40) rfl rfl rfl ?_
        refine r_cV (p := 43) rfl rfl rfl (Nat.le_of_ble_eq_true rfl) rfl (s_X7_thereAre H.1 hI.1 ?_)
        rw [there_eq hI]
        refine r_istore (p := 45) rfl rfl rfl ?_
        refine r_iconst (v := 0) (p := 46) rfl rfl rfl ?_
        refine r_istore (p := 48) rfl rfl rfl ?_
        have e : oRs b x y z = (nI (sNu b.1).length + cnt (sG b.1) 2, (rstS b.1 x y z, b.2)) := if_neg (fun q => by
          rcases q with q | q | q
          · exact c1 (if_neg (fun w => q.elim w.1 w.2))
          · exact c2 (if_neg (fun w => q.elim w.1 w.2))
          · exact c3 (if_neg (fun w => q.elim w.1 w.2)))
        rw [e] at hQ
        refine lp_X7_reset (fun M0 l0 i1 i2 => ?_) 100 0 M rfl (fun _ _ _ => rfl) (fun i hi => absurd hi (Nat.not_lt_zero _))
        refine r_aload_n (p := 70) rfl rfl rfl ?_
        refine r_iload_n (p := 71) rfl rfl rfl ?_
        refine r_putI (p := 74) rfl rfl rfl rfl ?_
        refine r_aload_n (p := 75) rfl rfl rfl ?_
        refine r_iload_n (p := 76) rfl rfl rfl ?_
        refine r_putI (p := 79) rfl rfl rfl rfl ?_
        refine r_aload_n (p := 80) rfl rfl rfl ?_
        refine r_iload_n (p := 81) rfl rfl rfl ?_
        refine r_putI (p := 84) rfl rfl rfl rfl ?_
        refine r_aload_n (p := 85) rfl rfl rfl ?_
        refine r_iconst (v := 0) (p := 86) rfl rfl rfl ?_
        refine r_putI (p := 89) rfl rfl rfl rfl ?_
        refine r_aload_n (p := 90) rfl rfl rfl ?_
        refine r_iconst (v := 0) (p := 91) rfl rfl rfl ?_
        refine r_putI (p := 94) rfl rfl rfl rfl ?_
        refine r_aload_n (p := 95) rfl rfl rfl ?_
        refine r_iconst (v := 0) (p := 96) rfl rfl rfl ?_
        refine r_putI (p := 99) rfl rfl rfl rfl ?_
        refine r_aload_n (p := 100) rfl rfl rfl ?_
        refine r_iconst (v := 0) (p := 101) rfl rfl rfl ?_
        refine r_putI (p := 104) rfl rfl rfl rfl ?_
        refine r_aload_n (p := 105) rfl rfl rfl ?_
        refine r_iconst (v := 0) (p := 106) rfl rfl rfl ?_
        refine r_putI (p := 109) rfl rfl rfl rfl ?_
        refine r_aload_n (p := 110) rfl rfl rfl ?_
        refine r_iconst (v := 0) (p := 111) rfl rfl rfl ?_
        refine r_putI (p := 114) rfl rfl rfl rfl ?_
        refine r_aload_n (p := 115) rfl rfl rfl ?_
        refine r_iconst (v := 0) (p := 116) rfl rfl rfl ?_
        refine r_putI (p := 119) rfl rfl rfl rfl ?_
        refine r_aload_n (p := 120) rfl rfl rfl ?_
        refine r_iconst (v := 0) (p := 121) rfl rfl rfl ?_
        refine r_putI (p := 124) rfl rfl rfl rfl ?_
        refine r_aload_n (p := 125) rfl rfl rfl ?_
        refine r_iconst (v := 0) (p := 126) rfl rfl rfl ?_
        refine r_putI (p := 129) rfl rfl rfl rfl ?_
        refine r_aload_n (p := 130) rfl rfl rfl ?_
        refine r_cV (p := 133) rfl rfl rfl (Nat.le_of_ble_eq_true rfl) rfl (s_X7_bareRoots ?_)
        refine r_iload (p := 135) rfl rfl rfl ?_
        refine r_ireturn rfl trivial ?_
        have f0 : frR F M (uF (uF (uF (uF (uF (uF (uF (uF (uF (uF (uF (uF F 34 0 x) 34 1 y) 34 2 z) 34 3 0) 34 11 0) 34 13 0) 34 15 0) 34 17 0) 34 18 0) 34 19 0) 34 20 0) 34 21 0) (uM (uM (uM (uM M0 40 0 (-1)) 40 1 (-1)) 40 2 (-1)) 40 3 (-1)) := by
          refine ((frR.f (by omega)).tr ((frR.f (by omega)).tr ((frR.f (by omega)).tr ((frR.f (by omega)).tr ((frR.f (by omega)).tr ((frR.f (by omega)).tr ((frR.f (by omega)).tr ((frR.f (by omega)).tr ((frR.f (by omega)).tr ((frR.f (by omega)).tr ((frR.f (by omega)).tr ((frR.f (by omega)).tr (⟨fun _ _ _ => rfl, fun a i ha => ?_⟩)))))))))))))
          exact (uM_ne (by omega)).trans ((uM_ne (by omega)).trans ((uM_ne (by omega)).trans ((uM_ne (by omega)).trans (i1 a i (by omega)))))
        refine hQ _ _ L (H.hp (b := b) (s := rstS b.1 x y z) ?r f0) f0.r
        case r =>
          obtain ⟨w1, w2, w3, w4, w5, w6, l1, l2, l3, l4, v1, v2, v3, v4⟩ := H.1
          have g4 : ∀ a i, a ≠ 40 → a ≠ 35 → (uM (uM (uM (uM M0 40 0 (-1)) 40 1 (-1)) 40 2 (-1)) 40 3 (-1)) a i = M a i := fun a i ha hb => (uM_ne ha).trans ((uM_ne ha).trans ((uM_ne ha).trans ((uM_ne ha).trans (i1 a i hb))))
          refine ⟨fun i hi => i2 i hi, fun i hi => (g4 _ _ (by omega) (by omega)).trans (w2 i hi), fun i hi => (g4 _ _ (by omega) (by omega)).trans (w3 i hi), fun i hi q _ => absurd q (by show ¬ (0 : Int32) = 2; decide), fun i j hi a b => (g4 _ _ (by omega) (by omega)).trans (w5 i j hi a b), fun k hk => ?_, LL.nil, LL.nil, LL.nil, LL.nil, ⟨rfl, rfl, rfl⟩, rfl, ⟨rfl, rfl⟩, ⟨rfl, rfl⟩⟩
          rcases (show k = 0 ∨ k = 1 ∨ k = 2 ∨ k = 3 by omega) with q | q | q | q <;> subst q <;> rfl
      · refine r_aload_n (p := 33) rfl rfl rfl ?_
        refine r_bipush (v := (-2)) (p := 35) rfl rfl rfl ?_
        refine r_cV (p := 38) rfl rfl rfl (Nat.le_of_ble_eq_true rfl) rfl (s_X7_fail vpf2 ?_)
        rw [f_fail]
        have hq : z < 1 ∨ 5 < z := Classical.byContradiction fun q => absurd c3 (by rw [if_pos ⟨fun w => q (Or.inl w), fun w => q (Or.inr w)⟩]; decide)
        have e : oRs b x y z = (-2, bE b (-2)) := if_pos (Or.inr (Or.inr hq))
        rw [e] at hQ
        have z := H.cnt H.2.2.1 (-2)
        rw [eM_2] at z
        refine r_ireturn rfl trivial ?_
        exact hQ F _ L z.1 z.2
theorem rs_allocate {b : mBs} {v : Int32} (hI : Inv b.1) : RS 2 11 [.int v] b (.int (oAl b v).1) (oAl b v).2 := fun d Y F M L Q H hQ => by
  refine s_X7_allocate H.1 hI (fun F' M' R f => ?_)
  have z := (H.hp R f).cnt H.2.2.1 (aloc b.1 v).1
  exact hQ _ _ L z.1 (f.r.tr z.2)
theorem rs_write {b : mBs} {i j t : Int32} (hI : Inv b.1) : RS 4 16 [.int i, .int j, .int t] b (.int (oWr b i j t).1) (oWr b i j t).2 := fun d Y F M L Q H hQ => by
  refine s_X7_write H.1 hI (fun F' M' R f => ?_)
  have z := (H.hp R f).cnt H.2.2.1 (stF b.1 i j t).1
  exact hQ _ _ L z.1 (f.r.tr z.2)
theorem rs_setRoot {b : mBs} {i t : Int32} (hI : Inv b.1) : RS 4 17 [.int i, .int t] b (.int (oSr b i t).1) (oSr b i t).2 := fun d Y F M L Q H hQ => by
  refine s_X7_setRoot H.1 hI (fun F' M' R f => ?_)
  have z := (H.hp R f).cnt H.2.2.1 (stR b.1 i t).1
  exact hQ _ _ L z.1 (f.r.tr z.2)
theorem rs_startMajor {b : mBs} (hI : Inv b.1) : RS 5 27 [] b (.int (oBg b).1) (oBg b).2 := fun d Y F M L Q H hQ => by
  refine s_X7_startMajor H.1 hI (fun F' M' R f => ?_)
  have z := (H.hp R f).cnt H.2.2.1 (bgn b.1).1
  exact hQ _ _ L z.1 (f.r.tr z.2)
theorem rs_stepMajor {b : mBs} {v : Int32} (hI : Inv b.1) : RS 6 32 [.int v] b (.int (oSt b v).1) (oSt b v).2 := fun d Y F M L Q H hQ => by
  refine s_X7_stepMajor H.1 hI (fun F' M' R f => ?_)
  have z := (H.hp R f).cnt H.2.2.1 (adv b.1 v).1
  exact hQ _ _ L z.1 (f.r.tr z.2)
theorem rs_minorCollection {b : mBs} (hI : Inv b.1) : RS 5 24 [] b (.int (oMi b).1) (oMi b).2 := fun d Y F M L Q H hQ => by
  exact s_X7_minorCollection H.1 hI (fun F' M' R f => hQ _ _ L (H.hp R f) f.r)
theorem rs_reachableCount {b : mBs} (hI : Inv b.1) : RS 4 39 [] b (.int (oRe b).1) (oRe b).2 := fun d Y F M L Q H hQ => by
  exact s_X7_reachableCount H.1 hI (fun M' R f => hQ _ _ L (H.hp R f) f.r)
set_option maxRecDepth 100000 in
theorem rs_exists {b : mBs} {v : Int32} (hI : Inv b.1) : RS 3 33 [.int v] b (.int (oEx b v).1) (oEx b v).2 := fun d Y F M L Q H hQ => by
  refine Cw_in rfl rfl ?_
  refine r_aload_n (p := 1) rfl rfl rfl ?_
  refine r_iload_n (p := 2) rfl rfl rfl ?_
  refine r_cV (p := 5) rfl rfl rfl (Nat.le_of_ble_eq_true rfl) rfl (s_X7_isThere H.1 hI ?_)
  refine r_if_eq (p := 8) rfl rfl (fun c1 => ?_) (fun c1 => ?_)
  · refine r_iconst (v := 0) (p := 13) rfl rfl rfl ?_
    have hy : ¬ liveP b.1 v := fun q => absurd c1 (by rw [if_pos q]; decide)
    have e : oEx b v = (0, b) := by unfold oEx; rw [if_neg hy]
    rw [e] at hQ
    refine r_ireturn rfl trivial ?_
    exact hQ F M L H frr.rf
  · refine r_iconst (v := 1) (p := 9) rfl rfl rfl ?_
    refine r_goto rfl ?_
    have e : oEx b v = (1, b) := by unfold oEx; rw [if_pos (Classical.byContradiction fun q => c1 (if_neg q))]
    rw [e] at hQ
    refine r_ireturn rfl trivial ?_
    exact hQ F M L H frr.rf
set_option maxRecDepth 100000 in
theorem rs_isOld {b : mBs} {v : Int32} (hI : Inv b.1) : RS 3 34 [.int v] b (.int (oIo b v).1) (oIo b v).2 := fun d Y F M L Q H hQ => by
  refine Cw_in rfl rfl ?_
  refine r_aload_n (p := 1) rfl rfl rfl ?_
  refine r_iload_n (p := 2) rfl rfl rfl ?_
  refine r_cV (p := 5) rfl rfl rfl (Nat.le_of_ble_eq_true rfl) rfl (s_X7_isThere H.1 hI ?_)
  refine r_if_ne (p := 8) rfl rfl (fun c1 => ?_) (fun c1 => ?_)
  · have hy : liveP b.1 v := Classical.byContradiction fun q => c1 (if_neg q)
    refine r_aload_n (p := 18) rfl rfl rfl ?_
    refine r_getR (p := 21) rfl rfl rfl rfl rfl ?_
    refine r_iload_n (p := 22) rfl rfl rfl ?_
    refine r_iald (p := 23) rfl rfl rfl (vp100 hy.1) rfl ?_
    rw [H.1.1 v hy.1]
    refine r_iconst (v := 2) (p := 24) rfl rfl rfl ?_
    refine r_icmp_ne (p := 27) rfl rfl (fun c2 => ?_) (fun c2 => ?_)
    · refine r_iconst (v := 0) (p := 32) rfl rfl rfl ?_
      have e : oIo b v = (0, b) := by unfold oIo; rw [if_pos hy, if_neg (fun q => c2 q.2)]
      rw [e] at hQ
      refine r_ireturn rfl trivial ?_
      exact hQ F M L H frr.rf
    · refine r_iconst (v := 1) (p := 28) rfl rfl rfl ?_
      refine r_goto rfl ?_
      have e : oIo b v = (1, b) := by unfold oIo; rw [if_pos hy, if_pos ⟨hy.1, c2⟩]
      rw [e] at hQ
      refine r_ireturn rfl trivial ?_
      exact hQ F M L H frr.rf
  · refine r_aload_n (p := 9) rfl rfl rfl ?_
    refine r_bipush (v := (-2)) (p := 11) rfl rfl rfl ?_
    refine r_cV (p := 14) rfl rfl rfl (Nat.le_of_ble_eq_true rfl) rfl (s_X7_fail vpf2 ?_)
    rw [f_fail]
    refine r_goto rfl ?_
    have hy : ¬ liveP b.1 v := fun q => absurd c1 (by rw [if_pos q]; decide)
    have e : oIo b v = (-2, bE b (-2)) := if_neg hy
    rw [e] at hQ
    have z := H.cnt H.2.2.1 (-2)
    rw [eM_2] at z
    refine r_ireturn rfl trivial ?_
    exact hQ F _ L z.1 z.2
set_option maxRecDepth 100000 in
theorem rs_age {b : mBs} {v : Int32} (hI : Inv b.1) : RS 3 35 [.int v] b (.int (oAg b v).1) (oAg b v).2 := fun d Y F M L Q H hQ => by
  refine Cw_in rfl rfl ?_
  refine r_aload_n (p := 1) rfl rfl rfl ?_
  refine r_iload_n (p := 2) rfl rfl rfl ?_
  refine r_cV (p := 5) rfl rfl rfl (Nat.le_of_ble_eq_true rfl) rfl (s_X7_isThere H.1 hI ?_)
  refine r_if_eq (p := 8) rfl rfl (fun c1 => ?_) (fun c1 => ?_)
  · refine r_aload_n (p := 18) rfl rfl rfl ?_
    refine r_bipush (v := (-2)) (p := 20) rfl rfl rfl ?_
    refine r_cV (p := 23) rfl rfl rfl (Nat.le_of_ble_eq_true rfl) rfl (s_X7_fail vpf2 ?_)
    rw [f_fail]
    have hy : ¬ liveP b.1 v := fun q => absurd c1 (by rw [if_pos q]; decide)
    have e : oAg b v = (-2, bE b (-2)) := if_neg hy
    rw [e] at hQ
    have z := H.cnt H.2.2.1 (-2)
    rw [eM_2] at z
    refine r_ireturn rfl trivial ?_
    exact hQ F _ L z.1 z.2
  · have hy : liveP b.1 v := Classical.byContradiction fun q => c1 (if_neg q)
    refine r_aload_n (p := 9) rfl rfl rfl ?_
    refine r_getR (p := 12) rfl rfl rfl rfl rfl ?_
    refine r_iload_n (p := 13) rfl rfl rfl ?_
    refine r_iald (p := 14) rfl rfl rfl (vp100 hy.1) rfl ?_
    rw [H.1.2.1 v hy.1]
    refine r_goto rfl ?_
    have e : oAg b v = (sA b.1 v, b) := if_pos hy
    rw [e] at hQ
    refine r_ireturn rfl trivial ?_
    exact hQ F M L H frr.rf
set_option maxRecDepth 100000 in
theorem rs_reference {b : mBs} {i j : Int32} (hI : Inv b.1) : RS 4 36 [.int i, .int j] b (.int (oRf b i j).1) (oRf b i j).2 := fun d Y F M L Q H hQ => by
  refine Cw_in rfl rfl ?_
  refine r_aload_n (p := 1) rfl rfl rfl ?_
  refine r_iload_n (p := 2) rfl rfl rfl ?_
  refine r_iload_n (p := 3) rfl rfl rfl ?_
  refine r_cV (p := 6) rfl rfl rfl (Nat.le_of_ble_eq_true rfl) rfl (s_X7_isField H.1 hI ?_)
  refine r_if_eq (p := 9) rfl rfl (fun c1 => ?_) (fun c1 => ?_)
  · refine r_aload_n (p := 23) rfl rfl rfl ?_
    refine r_bipush (v := (-2)) (p := 25) rfl rfl rfl ?_
    refine r_cV (p := 28) rfl rfl rfl (Nat.le_of_ble_eq_true rfl) rfl (s_X7_fail vpf2 ?_)
    rw [f_fail]
    have e : oRf b i j = (-2, bE b (-2)) := if_neg (fun q => absurd c1 (by rw [if_pos q]; decide))
    rw [e] at hQ
    have z := H.cnt H.2.2.1 (-2)
    rw [eM_2] at z
    refine r_ireturn rfl trivial ?_
    exact hQ F _ L z.1 z.2
  · have hy : fldP b.1 i j := Classical.byContradiction fun q => c1 (if_neg q)
    obtain ⟨n, hn, hn2⟩ := hI.2.2.1 i hy.1.1
    have hj4 : j < 4 := Int32.lt_of_lt_of_le hy.2.2 (by rw [hn2]; exact nI_le (a := n) (b := 4) hn (by omega))
    refine r_aload_n (p := 10) rfl rfl rfl ?_
    refine r_getR (p := 13) rfl rfl rfl rfl rfl ?_
    refine r_iconst (v := 4) (p := 14) rfl rfl rfl ?_
    refine r_iload_n (p := 15) rfl rfl rfl ?_
    refine r_imul (p := 16) rfl rfl ?_
    refine r_iload_n (p := 17) rfl rfl rfl ?_
    refine r_iadd (p := 18) rfl rfl ?_
    refine r_iald (p := 19) rfl rfl rfl (vp400 hy.1.1 hy.2.1 hj4) rfl ?_
    rw [H.1.2.2.2.2.1 i j hy.1.1 hy.2.1 hj4]
    refine r_goto rfl ?_
    have e : oRf b i j = (sR b.1 (4 * i + j), b) := if_pos hy
    rw [e] at hQ
    refine r_ireturn rfl trivial ?_
    exact hQ F M L H frr.rf
set_option maxRecDepth 100000 in
theorem rs_root {b : mBs} {i : Int32} : RS 2 37 [.int i] b (.int (oRt b i).1) (oRt b i).2 := fun d Y F M L Q H hQ => by
  refine Cw_in rfl rfl ?_
  refine r_iload_n (p := 1) rfl rfl rfl ?_
  refine r_iconst (v := 0) (p := 2) rfl rfl rfl ?_
  refine r_iconst (v := 3) (p := 3) rfl rfl rfl ?_
  refine r_cS1 (p := 6) rfl rfl (Nat.le_of_ble_eq_true rfl) rfl (s_X7_in ?_)
  rw [in_eq]
  refine r_if_eq (p := 9) rfl rfl (fun c1 => ?_) (fun c1 => ?_)
  · refine r_aload_n (p := 19) rfl rfl rfl ?_
    refine r_bipush (v := (-2)) (p := 21) rfl rfl rfl ?_
    refine r_cV (p := 24) rfl rfl rfl (Nat.le_of_ble_eq_true rfl) rfl (s_X7_fail vpf2 ?_)
    rw [f_fail]
    have e : oRt b i = (-2, bE b (-2)) := if_neg (fun q => absurd c1 (by rw [if_pos q]; decide))
    rw [e] at hQ
    have z := H.cnt H.2.2.1 (-2)
    rw [eM_2] at z
    refine r_ireturn rfl trivial ?_
    exact hQ F _ L z.1 z.2
  · have hy : ¬ i < 0 ∧ ¬ 3 < i := Classical.byContradiction fun q => c1 (if_neg q)
    obtain ⟨n, hn, en⟩ := nI_of2 (M := 3) (n := 3) (x := i) rfl hy.1 (Int32.not_lt.mp hy.2)
    have er := H.1.2.2.2.2.2.1 n (by omega)
    rw [← en] at er
    refine r_aload_n (p := 10) rfl rfl rfl ?_
    refine r_getR (p := 13) rfl rfl rfl rfl rfl ?_
    refine r_iload_n (p := 14) rfl rfl rfl ?_
    refine r_iald (p := 15) rfl rfl rfl (vp4 hy.1 hy.2) rfl ?_
    rw [er]
    refine r_goto rfl ?_
    have e : oRt b i = (sO b.1 i, b) := if_pos hy
    rw [e] at hQ
    refine r_ireturn rfl trivial ?_
    exact hQ F M L H frr.rf
set_option maxRecDepth 100000 in
theorem rs_colour {b : mBs} {v : Int32} (hI : Inv b.1) : RS 3 38 [.int v] b (.int (oCo b v).1) (oCo b v).2 := fun d Y F M L Q H hQ => by
  refine Cw_in rfl rfl ?_
  refine r_aload_n (p := 1) rfl rfl rfl ?_
  refine r_iload_n (p := 2) rfl rfl rfl ?_
  refine r_cV (p := 5) rfl rfl rfl (Nat.le_of_ble_eq_true rfl) rfl (s_X7_isThere H.1 hI ?_)
  refine r_if_ne (p := 8) rfl rfl (fun c1 => ?_) (fun c1 => ?_)
  · have hy : liveP b.1 v := Classical.byContradiction fun q => c1 (if_neg q)
    refine r_aload_n (p := 16) rfl rfl rfl ?_
    refine r_getR (p := 19) rfl rfl rfl rfl rfl ?_
    refine r_iload_n (p := 20) rfl rfl rfl ?_
    refine r_iald (p := 21) rfl rfl rfl (vp100 hy.1) rfl ?_
    rw [H.1.1 v hy.1]
    refine r_iconst (v := 1) (p := 22) rfl rfl rfl ?_
    refine r_icmp_eq (p := 25) rfl rfl (fun c2 => ?_) (fun c2 => ?_)
    · refine r_aload_n (p := 33) rfl rfl rfl ?_
      refine r_bipush (v := (-3)) (p := 35) rfl rfl rfl ?_
      refine r_cV (p := 38) rfl rfl rfl (Nat.le_of_ble_eq_true rfl) rfl (s_X7_fail vpf3 ?_)
      rw [f_fail]
      refine r_goto rfl ?_
      have e : oCo b v = (-3, bE b (-3)) := by unfold oCo; rw [if_pos hy, if_neg (fun q => absurd (c2.symm.trans q.2.2) (by decide))]
      rw [e] at hQ
      have z := H.cnt H.2.2.1 (-3)
      rw [eM_3] at z
      refine r_ireturn rfl trivial ?_
      exact hQ F _ L z.1 z.2
    · refine r_aload_n (p := 26) rfl rfl rfl ?_
      refine r_getI (p := 29) rfl rfl rfl rfl ?_
      rw [H.1.2.2.2.2.2.2.2.2.2.2.2.2.1.1]
      refine r_if_ne (p := 32) rfl rfl (fun c3 => ?_) (fun c3 => ?_)
      · have h0 : ¬ sPh b.1 = 0 := c3
        have ho : oldP b.1 v := ⟨hy.1, by
          rcases hI.2.1 v hy.1 with q | q | q
          · exact absurd q hy.2
          · exact absurd q c2
          · exact q⟩
        refine r_aload_n (p := 42) rfl rfl rfl ?_
        refine r_getR (p := 45) rfl rfl rfl rfl rfl ?_
        refine r_iload_n (p := 46) rfl rfl rfl ?_
        refine r_iald (p := 47) rfl rfl rfl (vp100 hy.1) rfl ?_
        rw [H.1.2.2.2.1 v hy.1 ho.2 h0]
        have e : oCo b v = (sC b.1 v, b) := by unfold oCo; rw [if_pos hy, if_pos ⟨h0, ho⟩]
        rw [e] at hQ
        refine r_ireturn rfl trivial ?_
        exact hQ F M L H frr.rf
      · refine r_aload_n (p := 33) rfl rfl rfl ?_
        refine r_bipush (v := (-3)) (p := 35) rfl rfl rfl ?_
        refine r_cV (p := 38) rfl rfl rfl (Nat.le_of_ble_eq_true rfl) rfl (s_X7_fail vpf3 ?_)
        rw [f_fail]
        refine r_goto rfl ?_
        have e : oCo b v = (-3, bE b (-3)) := by unfold oCo; rw [if_pos hy, if_neg (fun q => q.1 c3)]
        rw [e] at hQ
        have z := H.cnt H.2.2.1 (-3)
        rw [eM_3] at z
        refine r_ireturn rfl trivial ?_
        exact hQ F _ L z.1 z.2
  · refine r_aload_n (p := 9) rfl rfl rfl ?_
    refine r_bipush (v := (-2)) (p := 11) rfl rfl rfl ?_
    refine r_cV (p := 14) rfl rfl rfl (Nat.le_of_ble_eq_true rfl) rfl (s_X7_fail vpf2 ?_)
    rw [f_fail]
    have hy : ¬ liveP b.1 v := fun q => absurd c1 (by rw [if_pos q]; decide)
    have e : oCo b v = (-2, bE b (-2)) := if_neg hy
    rw [e] at hQ
    have z := H.cnt H.2.2.1 (-2)
    rw [eM_2] at z
    refine r_ireturn rfl trivial ?_
    exact hQ F _ L z.1 z.2
set_option maxRecDepth 100000 in
theorem rs_youngObject {b : mBs} {i : Int32} (hI : Inv b.1) : RS 2 42 [.int i] b (.int (oAt (sNu b.1) b i).1) (oAt (sNu b.1) b i).2 := fun d Y F M L Q H hQ => by
  refine Cw_in rfl rfl ?_
  refine r_iload_n (p := 1) rfl rfl rfl ?_
  refine r_if_ge (p := 4) rfl rfl (fun c1 => ?_) (fun c1 => ?_)
  · refine r_iload_n (p := 14) rfl rfl rfl ?_
    refine r_aload_n (p := 15) rfl rfl rfl ?_
    refine r_getI (p := 18) rfl rfl rfl rfl ?_
    rw [H.1.2.2.2.2.2.2.1.1]
    refine r_icmp_ge (p := 21) rfl rfl (fun c2 => ?_) (fun c2 => ?_)
    · refine r_bipush (v := (-5)) (p := 32) rfl rfl rfl ?_
      have e : oAt (sNu b.1) b i = (-5, b) := by unfold oAt atL; rw [if_neg (Int32.not_lt.mpr c1), if_neg (Int32.not_lt.mpr c2)]
      rw [e] at hQ
      refine r_ireturn rfl trivial ?_
      exact hQ F M L H frr.rf
    · have hln : (sNu b.1).length ≤ 100 := hI.nul
      obtain ⟨j, hj, ej⟩ := nI_of (Int32.not_lt.mpr c1)
      have hjl : j < (sNu b.1).length := (nI_ltI hj (by omega)).mp (by rw [← ej]; exact Int32.not_le.mp c2)
      have er := H.1.2.2.2.2.2.2.1.2 j hjl
      rw [← ej] at er
      refine r_aload_n (p := 22) rfl rfl rfl ?_
      refine r_getR (p := 25) rfl rfl rfl rfl rfl ?_
      refine r_iload_n (p := 26) rfl rfl rfl ?_
      refine r_iald (p := 27) rfl rfl rfl (by rw [ej]; exact vp_in_nI (show j < 100 by omega) (by omega)) rfl ?_
      rw [er]
      refine r_goto rfl ?_
      have e : oAt (sNu b.1) b i = ((sNu b.1).getD j 0, b) := by unfold oAt atL; rw [if_neg (Int32.not_lt.mpr c1), if_pos (Int32.not_le.mp c2), ej, nI_clamp hj]
      rw [e] at hQ
      refine r_ireturn rfl trivial ?_
      exact hQ F M L H frr.rf
  · refine r_aload_n (p := 5) rfl rfl rfl ?_
    refine r_bipush (v := (-2)) (p := 7) rfl rfl rfl ?_
    refine r_cV (p := 10) rfl rfl rfl (Nat.le_of_ble_eq_true rfl) rfl (s_X7_fail vpf2 ?_)
    rw [f_fail]
    refine r_goto rfl ?_
    have e : oAt (sNu b.1) b i = (-2, bE b (-2)) := if_pos (Int32.not_le.mp c1)
    rw [e] at hQ
    have z := H.cnt H.2.2.1 (-2)
    rw [eM_2] at z
    refine r_ireturn rfl trivial ?_
    exact hQ F _ L z.1 z.2
set_option maxRecDepth 100000 in
theorem rs_remembered {b : mBs} {i : Int32} (hI : Inv b.1) : RS 2 47 [.int i] b (.int (oAt (sKn b.1) b i).1) (oAt (sKn b.1) b i).2 := fun d Y F M L Q H hQ => by
  refine Cw_in rfl rfl ?_
  refine r_iload_n (p := 1) rfl rfl rfl ?_
  refine r_if_ge (p := 4) rfl rfl (fun c1 => ?_) (fun c1 => ?_)
  · refine r_iload_n (p := 14) rfl rfl rfl ?_
    refine r_aload_n (p := 15) rfl rfl rfl ?_
    refine r_getI (p := 18) rfl rfl rfl rfl ?_
    rw [H.1.2.2.2.2.2.2.2.1.1]
    refine r_icmp_ge (p := 21) rfl rfl (fun c2 => ?_) (fun c2 => ?_)
    · refine r_bipush (v := (-5)) (p := 32) rfl rfl rfl ?_
      have e : oAt (sKn b.1) b i = (-5, b) := by unfold oAt atL; rw [if_neg (Int32.not_lt.mpr c1), if_neg (Int32.not_lt.mpr c2)]
      rw [e] at hQ
      refine r_ireturn rfl trivial ?_
      exact hQ F M L H frr.rf
    · have hln : (sKn b.1).length ≤ 100 := hI.knl
      obtain ⟨j, hj, ej⟩ := nI_of (Int32.not_lt.mpr c1)
      have hjl : j < (sKn b.1).length := (nI_ltI hj (by omega)).mp (by rw [← ej]; exact Int32.not_le.mp c2)
      have er := H.1.2.2.2.2.2.2.2.1.2 j hjl
      rw [← ej] at er
      refine r_aload_n (p := 22) rfl rfl rfl ?_
      refine r_getR (p := 25) rfl rfl rfl rfl rfl ?_
      refine r_iload_n (p := 26) rfl rfl rfl ?_
      refine r_iald (p := 27) rfl rfl rfl (by rw [ej]; exact vp_in_nI (show j < 100 by omega) (by omega)) rfl ?_
      rw [er]
      refine r_goto rfl ?_
      have e : oAt (sKn b.1) b i = ((sKn b.1).getD j 0, b) := by unfold oAt atL; rw [if_neg (Int32.not_lt.mpr c1), if_pos (Int32.not_le.mp c2), ej, nI_clamp hj]
      rw [e] at hQ
      refine r_ireturn rfl trivial ?_
      exact hQ F M L H frr.rf
  · refine r_aload_n (p := 5) rfl rfl rfl ?_
    refine r_bipush (v := (-2)) (p := 7) rfl rfl rfl ?_
    refine r_cV (p := 10) rfl rfl rfl (Nat.le_of_ble_eq_true rfl) rfl (s_X7_fail vpf2 ?_)
    rw [f_fail]
    refine r_goto rfl ?_
    have e : oAt (sKn b.1) b i = (-2, bE b (-2)) := if_pos (Int32.not_le.mp c1)
    rw [e] at hQ
    have z := H.cnt H.2.2.1 (-2)
    rw [eM_2] at z
    refine r_ireturn rfl trivial ?_
    exact hQ F _ L z.1 z.2
set_option maxRecDepth 100000 in
theorem rs_outputByte {b : mBs} {i : Int32} (hl : b.2.2.2.length ≤ 64) : RS 2 56 [.int i] b (.int (oAt b.2.2.2 b i).1) (oAt b.2.2.2 b i).2 := fun d Y F M L Q H hQ => by
  refine Cw_in rfl rfl ?_
  refine r_iload_n (p := 1) rfl rfl rfl ?_
  refine r_if_ge (p := 4) rfl rfl (fun c1 => ?_) (fun c1 => ?_)
  · refine r_iload_n (p := 14) rfl rfl rfl ?_
    refine r_aload_n (p := 15) rfl rfl rfl ?_
    refine r_getI (p := 18) rfl rfl rfl rfl ?_
    rw [H.2.2.2.2.1]
    refine r_icmp_ge (p := 21) rfl rfl (fun c2 => ?_) (fun c2 => ?_)
    · refine r_bipush (v := (-5)) (p := 32) rfl rfl rfl ?_
      have e : oAt b.2.2.2 b i = (-5, b) := by unfold oAt atL; rw [if_neg (Int32.not_lt.mpr c1), if_neg (Int32.not_lt.mpr c2)]
      rw [e] at hQ
      refine r_ireturn rfl trivial ?_
      exact hQ F M L H frr.rf
    · have hln : b.2.2.2.length ≤ 64 := hl
      obtain ⟨j, hj, ej⟩ := nI_of (Int32.not_lt.mpr c1)
      have hjl : j < b.2.2.2.length := (nI_ltI hj (by omega)).mp (by rw [← ej]; exact Int32.not_le.mp c2)
      have er := H.2.2.2.2.2 j hjl
      rw [← ej] at er
      refine r_aload_n (p := 22) rfl rfl rfl ?_
      refine r_getR (p := 25) rfl rfl rfl rfl rfl ?_
      refine r_iload_n (p := 26) rfl rfl rfl ?_
      refine r_bald (p := 27) rfl rfl rfl (by rw [ej]; exact vp_in_nI (show j < 64 by omega) (by omega)) rfl ?_
      rw [er]
      refine r_goto rfl ?_
      have e : oAt b.2.2.2 b i = (b.2.2.2.getD j 0, b) := by unfold oAt atL; rw [if_neg (Int32.not_lt.mpr c1), if_pos (Int32.not_le.mp c2), ej, nI_clamp hj]
      rw [e] at hQ
      refine r_ireturn rfl trivial ?_
      exact hQ F M L H frr.rf
  · refine r_aload_n (p := 5) rfl rfl rfl ?_
    refine r_bipush (v := (-2)) (p := 7) rfl rfl rfl ?_
    refine r_cV (p := 10) rfl rfl rfl (Nat.le_of_ble_eq_true rfl) rfl (s_X7_fail vpf2 ?_)
    rw [f_fail]
    refine r_goto rfl ?_
    have e : oAt b.2.2.2 b i = (-2, bE b (-2)) := if_pos (Int32.not_le.mp c1)
    rw [e] at hQ
    have z := H.cnt H.2.2.1 (-2)
    rw [eM_2] at z
    refine r_ireturn rfl trivial ?_
    exact hQ F _ L z.1 z.2
set_option maxRecDepth 100000 in
theorem rs_errorCount {b : mBs} {k : Int32} : RS 2 70 [.int k] b (.int (oEc b k).1) (oEc b k).2 := fun d Y F M L Q H hQ => by
  refine Cw_in rfl rfl ?_
  refine r_iload_n (p := 1) rfl rfl rfl ?_
  refine r_iconst (v := 0) (p := 2) rfl rfl rfl ?_
  refine r_iconst (v := 2) (p := 3) rfl rfl rfl ?_
  refine r_cS1 (p := 6) rfl rfl (Nat.le_of_ble_eq_true rfl) rfl (s_X7_in ?_)
  rw [in_eq]
  refine r_if_eq (p := 9) rfl rfl (fun c1 => ?_) (fun c1 => ?_)
  · refine r_aload_n (p := 19) rfl rfl rfl ?_
    refine r_bipush (v := (-2)) (p := 21) rfl rfl rfl ?_
    refine r_cV (p := 24) rfl rfl rfl (Nat.le_of_ble_eq_true rfl) rfl (s_X7_fail vpf2 ?_)
    rw [f_fail]
    have e : oEc b k = (-2, bE b (-2)) := if_neg (fun q => absurd c1 (by rw [if_pos q]; decide))
    rw [e] at hQ
    have z := H.cnt H.2.2.1 (-2)
    rw [eM_2] at z
    refine r_ireturn rfl trivial ?_
    exact hQ F _ L z.1 z.2
  · have hy : ¬ k < 0 ∧ ¬ 2 < k := Classical.byContradiction fun q => c1 (if_neg q)
    obtain ⟨n3, h3, e3⟩ := out3 hy
    have er := H.2.1 n3 h3
    rw [← e3] at er
    refine r_aload_n (p := 10) rfl rfl rfl ?_
    refine r_getR (p := 13) rfl rfl rfl rfl rfl ?_
    refine r_iload_n (p := 14) rfl rfl rfl ?_
    refine r_iald (p := 15) rfl rfl rfl (vp3 hy) rfl ?_
    rw [er]
    refine r_goto rfl ?_
    have e : oEc b k = (b.2.1 k, b) := if_pos hy
    rw [e] at hQ
    refine r_ireturn rfl trivial ?_
    exact hQ F M L H frr.rf
set_option maxRecDepth 100000 in
theorem rs_youngCount {b : mBs} : RS 1 41 [] b (.int (nI (sNu b.1).length)) b := fun d Y F M L Q H hQ => by
  refine Cw_in rfl rfl ?_
  refine r_aload_n (p := 1) rfl rfl rfl ?_
  refine r_getI (p := 4) rfl rfl rfl rfl ?_
  rw [H.1.2.2.2.2.2.2.1.1]
  refine r_ireturn rfl trivial ?_
  exact hQ F M L H frr.rf
set_option maxRecDepth 100000 in
theorem rs_rememberedCount {b : mBs} : RS 1 46 [] b (.int (nI (sKn b.1).length)) b := fun d Y F M L Q H hQ => by
  refine Cw_in rfl rfl ?_
  refine r_aload_n (p := 1) rfl rfl rfl ?_
  refine r_getI (p := 4) rfl rfl rfl rfl ?_
  rw [H.1.2.2.2.2.2.2.2.1.1]
  refine r_ireturn rfl trivial ?_
  exact hQ F M L H frr.rf
set_option maxRecDepth 100000 in
theorem rs_greyCount {b : mBs} : RS 1 49 [] b (.int (nI (sQu b.1).length)) b := fun d Y F M L Q H hQ => by
  refine Cw_in rfl rfl ?_
  refine r_aload_n (p := 1) rfl rfl rfl ?_
  refine r_getI (p := 4) rfl rfl rfl rfl ?_
  rw [H.1.2.2.2.2.2.2.2.2.1.1]
  refine r_ireturn rfl trivial ?_
  exact hQ F M L H frr.rf
set_option maxRecDepth 100000 in
theorem rs_phase {b : mBs} : RS 1 48 [] b (.int (sPh b.1)) b := fun d Y F M L Q H hQ => by
  refine Cw_in rfl rfl ?_
  refine r_aload_n (p := 1) rfl rfl rfl ?_
  refine r_getI (p := 4) rfl rfl rfl rfl ?_
  rw [H.1.2.2.2.2.2.2.2.2.2.2.2.2.1.1]
  refine r_ireturn rfl trivial ?_
  exact hQ F M L H frr.rf
set_option maxRecDepth 100000 in
theorem rs_majorCount {b : mBs} : RS 1 51 [] b (.int (sMa b.1)) b := fun d Y F M L Q H hQ => by
  refine Cw_in rfl rfl ?_
  refine r_aload_n (p := 1) rfl rfl rfl ?_
  refine r_getI (p := 4) rfl rfl rfl rfl ?_
  rw [H.1.2.2.2.2.2.2.2.2.2.2.2.2.1.2]
  refine r_ireturn rfl trivial ?_
  exact hQ F M L H frr.rf
set_option maxRecDepth 100000 in
theorem rs_promotionFailures {b : mBs} : RS 1 50 [] b (.int (sFa b.1)) b := fun d Y F M L Q H hQ => by
  refine Cw_in rfl rfl ?_
  refine r_aload_n (p := 1) rfl rfl rfl ?_
  refine r_getI (p := 4) rfl rfl rfl rfl ?_
  rw [H.1.2.2.2.2.2.2.2.2.2.2.2.2.2.1]
  refine r_ireturn rfl trivial ?_
  exact hQ F M L H frr.rf
theorem rs_oldCount {b : mBs} (hI : Inv b.1) : RS 1 44 [] b (.int (cnt (sG b.1) 2)) b := fun d Y F M L Q H hQ => by
  exact s_X7_oldCount H.1 hI.1 (hQ F M L H frr.rf)
set_option maxRecDepth 100000 in
theorem rs_youngWords {b : mBs} (hI : Inv b.1) : RS 2 43 [] b (.int (wds (sG b.1) (sN b.1) 1)) b := fun d Y F M L Q H hQ => by
  refine Cw_in rfl rfl ?_
  refine r_aload_n (p := 1) rfl rfl rfl ?_
  refine r_iconst (v := 1) (p := 2) rfl rfl rfl ?_
  refine r_cV (p := 5) rfl rfl rfl (Nat.le_of_ble_eq_true rfl) rfl (s_X7_words H.1 hI.1 (by decide) ?_)
  refine r_ireturn rfl trivial ?_
  exact hQ F M L H frr.rf
set_option maxRecDepth 100000 in
theorem rs_oldWords {b : mBs} (hI : Inv b.1) : RS 2 45 [] b (.int (wds (sG b.1) (sN b.1) 2)) b := fun d Y F M L Q H hQ => by
  refine Cw_in rfl rfl ?_
  refine r_aload_n (p := 1) rfl rfl rfl ?_
  refine r_iconst (v := 2) (p := 2) rfl rfl rfl ?_
  refine r_cV (p := 5) rfl rfl rfl (Nat.le_of_ble_eq_true rfl) rfl (s_X7_words H.1 hI.1 (by decide) ?_)
  refine r_ireturn rfl trivial ?_
  exact hQ F M L H frr.rf
set_option maxRecDepth 100000 in
theorem rs_append {b : mBs} {v : Int32} (ht : b.2.2.1.length ≤ 150) : RS 2 57 [.int v] b (.int (oAp b v).1) (oAp b v).2 := fun d Y F M L Q H hQ => by
  refine Cw_in rfl rfl ?_
  have h3 := H.2.2.2.1
  refine r_iload_n (p := 1) rfl rfl rfl ?_
  refine r_iconst (v := 0) (p := 2) rfl rfl rfl ?_
  refine r_bipush (v := 127) (p := 4) rfl rfl rfl ?_
  refine r_cS1 (p := 7) rfl rfl (Nat.le_of_ble_eq_true rfl) rfl (s_X7_in ?_)
  rw [in_eq]
  refine r_if_ne (p := 10) rfl rfl (fun c1 => ?_) (fun c1 => ?_)
  · have ho : ¬ (v < 0 ∨ 127 < v) := fun q => c1 (if_neg (fun w => q.elim w.1 w.2))
    refine r_aload_n (p := 18) rfl rfl rfl ?_
    refine r_getI (p := 21) rfl rfl rfl rfl ?_
    rw [h3.1]
    refine r_sipush (v := 150) (p := 24) rfl rfl rfl ?_
    refine r_icmp_ne (p := 27) rfl rfl (fun c2 => ?_) (fun c2 => ?_)
    · have hl : b.2.2.1.length < 150 := Nat.lt_of_le_of_ne ht (fun q => c2 (by rw [q]; rfl))
      have e : oAp b v = (nI (b.2.2.1.length + 1), (b.1, b.2.1, b.2.2.1 ++ [v], b.2.2.2)) := by
        unfold oAp
        rw [if_neg ho, if_neg (by omega)]
      rw [e] at hQ
      refine r_aload_n (p := 35) rfl rfl rfl ?_
      refine r_getR (p := 38) rfl rfl rfl rfl rfl ?_
      refine r_aload_n (p := 39) rfl rfl rfl ?_
      refine r_getI (p := 42) rfl rfl rfl rfl ?_
      refine r_iload_n (p := 43) rfl rfl rfl ?_
      refine r_i2b (p := 44) rfl rfl ?_
      rw [(i8_ok ho).1]
      refine r_bast (v := v) (p := 45) rfl rfl rfl (by rw [h3.1]; exact vp_in_nI hl (by omega)) (by decide) (i8_ok ho).2.1 rfl ?_
      refine r_aload_n (p := 46) rfl rfl rfl ?_
      refine r_dup (p := 47) rfl rfl rfl ?_
      refine r_getI (p := 50) rfl rfl rfl rfl ?_
      refine r_iconst (v := 1) (p := 51) rfl rfl rfl ?_
      refine r_iadd (p := 52) rfl rfl ?_
      refine r_putI (p := 55) rfl rfl rfl rfl ?_
      refine r_aload_n (p := 56) rfl rfl rfl ?_
      refine r_getI (p := 59) rfl rfl rfl rfl ?_
      have z := hQ (uF F 34 25 (F 34 25 + 1)) (uM M 46 (F 34 25) v) L ?_ ?_
      · refine r_ireturn rfl trivial ?_
        have e9 : (uF F 34 25 (F 34 25 + 1)) 34 25 = nI (b.2.2.1.length + 1) := by show F 34 25 + 1 = _; rw [h3.1, nI_1]
        rw [← e9] at z
        exact z
      · obtain ⟨h1, h2, h0, h3, h5⟩ := H
        exact ⟨h1.fr (fun k hk => uF_nk (by omega)) (fun a i ha hb => uM_ne (by omega)), fun k hk => by rw [uM_ne (by omega)]; exact h2 k hk, h0, h3.app (by omega) v, h5.fr (fun i => uM_ne (by omega))⟩
      · exact ⟨fun a k ha => uF_ne ha, fun a i ha => uM_ne (by omega)⟩
    · refine r_aload_n (p := 28) rfl rfl rfl ?_
      refine r_bipush (v := (-4)) (p := 30) rfl rfl rfl ?_
      refine r_cV (p := 33) rfl rfl rfl (Nat.le_of_ble_eq_true rfl) rfl (s_X7_fail vpf4 ?_)
      rw [f_fail]
      have e : oAp b v = (-4, bE b (-4)) := by unfold oAp; rw [if_neg ho, if_pos (by have := nI_inj (b := 150) (by omega) (by omega) c2; omega)]
      rw [e] at hQ
      have z := H.cnt H.2.2.1 (-4)
      rw [eM_4] at z
      refine r_ireturn rfl trivial ?_
      exact hQ F _ L z.1 z.2
  · refine r_aload_n (p := 11) rfl rfl rfl ?_
    refine r_bipush (v := (-2)) (p := 13) rfl rfl rfl ?_
    refine r_cV (p := 16) rfl rfl rfl (Nat.le_of_ble_eq_true rfl) rfl (s_X7_fail vpf2 ?_)
    rw [f_fail]
    have e : oAp b v = (-2, bE b (-2)) := if_pos (Classical.byContradiction fun q => absurd c1 (by rw [if_pos ⟨fun w => q (Or.inl w), fun w => q (Or.inr w)⟩]; decide))
    rw [e] at hQ
    have z := H.cnt H.2.2.1 (-2)
    rw [eM_2] at z
    refine r_ireturn rfl trivial ?_
    exact hQ F _ L z.1 z.2
set_option maxRecDepth 100000 in
theorem rs_clearText {b : mBs} : RS 1 58 [] b (.int (oCl b).1) (oCl b).2 := fun d Y F M L Q H hQ => by
  refine Cw_in rfl rfl ?_
  refine r_aload_n (p := 1) rfl rfl rfl ?_
  refine r_getI (p := 4) rfl rfl rfl rfl ?_
  rw [H.2.2.2.1.1]
  refine r_istore_n (p := 5) rfl rfl rfl ?_
  refine r_aload_n (p := 6) rfl rfl rfl ?_
  refine r_iconst (v := 0) (p := 7) rfl rfl rfl ?_
  refine r_putI (p := 10) rfl rfl rfl rfl ?_
  refine r_iload_n (p := 11) rfl rfl rfl ?_
  refine r_ireturn rfl trivial ?_
  obtain ⟨h1, h2, h0, h3, h5⟩ := H
  exact hQ _ M L ⟨h1.fr (fun k hk => uF_nk (by omega)) (fun _ _ _ _ => rfl), h2, h0, LL.nil, h5⟩ ⟨fun a k ha => uF_ne ha, fun _ _ _ => rfl⟩
