theorem RR.grow {s : mSt} {F : mF} {M : mM} (H : RR s F M) {v : Int32} (hv : inR v) : RR (wA s (up1 (sA s) v (sA s v + 1))) F (uM M 36 v (M 36 v + 1)) := by
  obtain ⟨c1, c2, c3⟩ := H
  refine ⟨c1, fun i hi => ?_, c3⟩
  rw [uM_at, c2 v hv]
  show _ = if i = v then sA s v + 1 else sA s i
  rw [c2 i hi]
theorem RR.fas {s : mSt} {F : mF} {M : mM} (H : RR s F M) : RR (wFa s (sFa s + 1)) (uF F 34 19 (F 34 19 + 1)) M := by
  obtain ⟨c1, c2, c3, c4, c5, c6, l1, l2, l3, l4, e1, e2, e3, e4⟩ := H
  exact ⟨c1, c2, c3, c4, c5, c6, l1, l2, l3, l4, e1, e2, e3, by show F 34 19 + 1 = sFa s + 1; rw [e4.1], e4.2⟩
theorem RR.fr0 {s : mSt} {F : mF} {M : mM} (H : RR s F M) {v : Int32} : RR (wG s (up1 (sG s) v 0)) F (uM M 35 v 0) := by
  obtain ⟨k1, k2, k3, k4, k5⟩ := H
  refine ⟨fun i hi => ?_, k2, k3, fun i hi hg hq => k4 i hi ?_ hq, k5⟩
  · rw [uM_at]; show _ = if i = v then 0 else sG s i; rw [k1 i hi]
  · have hg : (if i = v then 0 else sG s i) = 2 := hg
    split at hg
    · exact absurd hg (by decide)
    · exact hg
theorem RR.nu0 {s : mSt} {F : mF} {M : mM} (H : RR s F M) : RR (wNu s []) (uF F 34 11 0) M := by
  obtain ⟨c1, c2, c3, c4, c5, c6, l1, e⟩ := H
  exact ⟨c1, c2, c3, c4, c5, c6, LL.nil, e⟩
theorem RR.pushN {s : mSt} {F : mF} {M : mM} (H : RR s F M) (hl : (sNu s).length < 100) (v : Int32) : RR (wNu s (sNu s ++ [v])) (uF F 34 11 (F 34 11 + 1)) (uM M 41 (F 34 11) v) := by
  obtain ⟨c1, c2, c3, c4, c5, c6, l1, e⟩ := H
  exact ⟨c1, c2, c3, c4, c5, c6, l1.app (by omega) v, e⟩
theorem RR.pushK {s : mSt} {F : mF} {M : mM} (H : RR s F M) (hl : (sKn s).length < 1000) (v : Int32) : RR (wKn s (sKn s ++ [v])) (uF F 34 13 (F 34 13 + 1)) (uM M 42 (F 34 13) v) := by
  obtain ⟨c1, c2, c3, c4, c5, c6, l1, l2, e⟩ := H
  exact ⟨c1, c2, c3, c4, c5, c6, l1, l2.app hl v, e⟩
set_option maxRecDepth 100000 in
theorem lp_X7_min1 {d : Nat} {Y : mY} {L : mL} {l : List Int32} {Q : Option Value → mW → Prop} :
    ∀ (t : List Int32) (j : Nat) (s : mSt) (F : mF) (M : mM) (z : Option Value), l.drop j = t → j ≤ l.length → RR s F M → InvW s → VS l F M → t.Nodup → (∀ x ∈ t, yngP s x) → (∀ F' M' l1 z, RR (t.foldl agS s) F' M' → VS l F' M' → frR F M F' M' → Wp (d + 4) tX7_minorCollection 89 [some (.ref 34), some l1, z] [] (mXY Y, F', M', L) Q) → Wp (d + 4) tX7_minorCollection 6 [some (.ref 34), some (.int (nI j)), z] [] (mXY Y, F, M, L) Q
  | [], j, s, F, M, z, hj, hjl, H, hI, hl, hn, hy, hQ => by
    have hd : l.length ≤ j := List.drop_eq_nil_iff.mp hj
    have hL := hl.len
    refine r_iload_n (p := 7) rfl rfl rfl ?_
    refine r_aload_n (p := 8) rfl rfl rfl ?_
    refine r_getI (p := 11) rfl rfl rfl rfl ?_
    rw [hl.1.1]
    refine r_icmp_ge (p := 14) rfl rfl (fun c1 => ?_) (fun c1 => ?_)
    · exact hQ F M _ _ H hl frR.rf
    · exact absurd (nI_le hd (by omega)) c1
  | x :: t, j, s, F, M, z, hj, hjl, H, hI, hl, hn, hy, hQ => by
    have hL := hl.len
    obtain ⟨hd, hx, ht⟩ := drop_c (z := 0) hj
    have hv := hy x List.mem_cons_self
    have hn2 := List.nodup_cons.mp hn
    have hy2 : ∀ y ∈ t, yngP (agS s x) y := fun y hy3 => ⟨(hy y (List.mem_cons_of_mem _ hy3)).1, by rw [g_agS_ne (show ¬ y = x from fun e => hn2.1 (e ▸ hy3))]; exact (hy y (List.mem_cons_of_mem _ hy3)).2⟩
    have H1 := H.grow hv.1
    have hte := H.2.2.2.2.2.2.2.2.2.2.1.2.2
    refine r_iload_n (p := 7) rfl rfl rfl ?_
    refine r_aload_n (p := 8) rfl rfl rfl ?_
    refine r_getI (p := 11) rfl rfl rfl rfl ?_
    rw [hl.1.1]
    refine r_icmp_ge (p := 14) rfl rfl (fun c1 => ?_) (fun c1 => ?_)
    · exact absurd c1 (nI_ge hd (by omega))
    · refine r_aload_n (p := 15) rfl rfl rfl ?_
      refine r_getR (p := 18) rfl rfl rfl rfl rfl ?_
      refine r_iload_n (p := 19) rfl rfl rfl ?_
      refine r_iald (p := 20) rfl rfl rfl (vp_in_nI (show j < 100 by omega) (by omega)) rfl ?_
      rw [hl.1.at hj]
      refine r_istore_n (p := 21) rfl rfl rfl ?_
      refine r_aload_n (p := 22) rfl rfl rfl ?_
      refine r_getR (p := 25) rfl rfl rfl rfl rfl ?_
      refine r_iload_n (p := 26) rfl rfl rfl ?_
      refine r_dup2 (p := 27) rfl rfl rfl rfl ?_
      refine r_iald (p := 28) rfl rfl rfl (vp100 hv.1) rfl ?_
      refine r_iconst (v := 1) (p := 29) rfl rfl rfl ?_
      refine r_iadd (p := 30) rfl rfl ?_
      refine r_iast (p := 31) rfl rfl rfl (vp100 hv.1) (by decide) rfl ?_
      refine r_aload_n (p := 32) rfl rfl rfl ?_
      refine r_getR (p := 35) rfl rfl rfl rfl rfl ?_
      refine r_iload_n (p := 36) rfl rfl rfl ?_
      refine r_iald (p := 37) rfl rfl rfl (vp100 hv.1) rfl ?_
      refine r_aload_n (p := 38) rfl rfl rfl ?_
      refine r_getI (p := 41) rfl rfl rfl rfl ?_
      rw [hte, show (uM M 36 x (M 36 x + 1)) 36 x = sA s x + 1 by rw [uM_at, if_pos rfl, H.2.1 x hv.1]]
      refine r_icmp_lt (p := 44) rfl rfl (fun c2 => ?_) (fun c2 => ?_)
      · refine r_iinc (v := (nI (j + 1))) (p := 86) rfl rfl (nI_1 j) rfl rfl ?_
        refine r_goto rfl ?_
        have e : agS s x = wA s (up1 (sA s) x (sA s x + 1)) := if_pos c2
        exact lp_X7_min1 t (j + 1) (agS s x) _ _ _ ht hd (by rw [e]; exact H1) (InvW_agS hI hv) hl hn2.2 hy2 (fun F' M' l1 z R I f => hQ F' M' l1 z R I ((frR.m (by omega)).tr f))
      · refine r_aload_n (p := 45) rfl rfl rfl ?_
        refine r_getI (p := 48) rfl rfl rfl rfl ?_
        refine r_aload_n (p := 49) rfl rfl rfl ?_
        refine r_iconst (v := 2) (p := 50) rfl rfl rfl ?_
        refine r_cV (p := 53) rfl rfl rfl (Nat.le_of_ble_eq_true rfl) rfl (s_X7_words H1 hI.1 (by decide) ?_)
        refine r_isub (p := 54) rfl rfl ?_
        refine r_iconst (v := 1) (p := 55) rfl rfl rfl ?_
        refine r_aload_n (p := 56) rfl rfl rfl ?_
        refine r_getR (p := 59) rfl rfl rfl rfl rfl ?_
        refine r_iload_n (p := 60) rfl rfl rfl ?_
        refine r_iald (p := 61) rfl rfl rfl (vp100 hv.1) rfl ?_
        refine r_iadd (p := 62) rfl rfl ?_
        rw [H.2.2.2.2.2.2.2.2.2.2.1.2.1, show (uM M 36 x (M 36 x + 1)) 37 x = sN s x from H.2.2.1 x hv.1]
        refine r_icmp_lt (p := 65) rfl rfl (fun c3 => ?_) (fun c3 => ?_)
        · refine r_aload_n (p := 74) rfl rfl rfl ?_
          refine r_dup (p := 75) rfl rfl rfl ?_
          refine r_getI (p := 78) rfl rfl rfl rfl ?_
          refine r_iconst (v := 1) (p := 79) rfl rfl rfl ?_
          refine r_iadd (p := 80) rfl rfl ?_
          refine r_putI (p := 83) rfl rfl rfl rfl ?_
          refine r_iinc (v := (nI (j + 1))) (p := 86) rfl rfl (nI_1 j) rfl rfl ?_
          refine r_goto rfl ?_
          have e : agS s x = wFa (wA s (up1 (sA s) x (sA s x + 1))) (sFa s + 1) := by unfold agS; rw [if_neg c2]; exact if_pos c3
          exact lp_X7_min1 t (j + 1) (agS s x) _ _ _ ht hd (by rw [e]; exact H1.fas) (InvW_agS hI hv) hl hn2.2 hy2 (fun F' M' l1 z R I f => hQ F' M' l1 z R I ((frR.m (by omega)).tr ((frR.f (by omega)).tr f)))
        · refine r_aload_n (p := 66) rfl rfl rfl ?_
          refine r_iload_n (p := 67) rfl rfl rfl ?_
          refine r_cV (p := 70) rfl rfl rfl (Nat.le_of_ble_eq_true rfl) rfl (s_X7_promote (s := wA s (up1 (sA s) x (sA s x + 1))) H1 hI hv hl (fun F2 M2 R2 I2 f2 => ?_))
          refine r_goto rfl ?_
          refine r_iinc (v := (nI (j + 1))) (p := 86) rfl rfl (nI_1 j) rfl rfl ?_
          refine r_goto rfl ?_
          have e : agS s x = prm (wA s (up1 (sA s) x (sA s x + 1))) x := by unfold agS; rw [if_neg c2]; exact if_neg c3
          exact lp_X7_min1 t (j + 1) (agS s x) _ _ _ ht hd (by rw [e]; exact R2) (InvW_agS hI hv) I2 hn2.2 hy2 (fun F' M' l1 z R I f => hQ F' M' l1 z R I ((frR.m (by omega)).tr (f2.tr f)))
set_option maxRecDepth 100000 in
theorem lp_X7_min2 {d : Nat} {Y : mY} {L : mL} {l : List Int32} {Q : Option Value → mW → Prop} :
    ∀ (t : List Int32) (j : Nat) (s : mSt) (F : mF) (M : mM) (m : Int32), (sNu s).drop j = t → j ≤ (sNu s).length → (sNu s).length ≤ 100 → (∀ x ∈ sNu s, inR x) → RR s F M → VS l F M → (∀ F' M' l2, RR (t.foldl (frO l) (s, m)).1 F' M' → VS l F' M' → frR F M F' M' → Wp (d + 4) tX7_minorCollection 136 [some (.ref 34), some (.int (t.foldl (frO l) (s, m)).2), some l2] [] (mXY Y, F', M', L) Q) → Wp (d + 4) tX7_minorCollection 93 [some (.ref 34), some (.int m), some (.int (nI j))] [] (mXY Y, F, M, L) Q
  | [], j, s, F, M, m, hj, hjl, hL, hR, H, hl, hQ => by
    have hd : (sNu s).length ≤ j := List.drop_eq_nil_iff.mp hj
    have hN := H.2.2.2.2.2.2.1
    refine r_iload_n (p := 94) rfl rfl rfl ?_
    refine r_aload_n (p := 95) rfl rfl rfl ?_
    refine r_getI (p := 98) rfl rfl rfl rfl ?_
    rw [hN.1]
    refine r_icmp_ge (p := 101) rfl rfl (fun c1 => ?_) (fun c1 => ?_)
    · exact hQ F M _ H hl frR.rf
    · exact absurd (nI_le hd (by omega)) c1
  | x :: t, j, s, F, M, m, hj, hjl, hL, hR, H, hl, hQ => by
    have hN := H.2.2.2.2.2.2.1
    obtain ⟨hd, hx, ht⟩ := drop_c (z := 0) hj
    have hv : inR x := hR x (by rw [← hx]; exact getD_mem hd)
    refine r_iload_n (p := 94) rfl rfl rfl ?_
    refine r_aload_n (p := 95) rfl rfl rfl ?_
    refine r_getI (p := 98) rfl rfl rfl rfl ?_
    rw [hN.1]
    refine r_icmp_ge (p := 101) rfl rfl (fun c1 => ?_) (fun c1 => ?_)
    · exact absurd c1 (nI_ge hd (by omega))
    · refine r_aload_n (p := 102) rfl rfl rfl ?_
      refine r_getR (p := 105) rfl rfl rfl rfl rfl ?_
      refine r_aload_n (p := 106) rfl rfl rfl ?_
      refine r_getR (p := 109) rfl rfl rfl rfl rfl ?_
      refine r_iload_n (p := 110) rfl rfl rfl ?_
      refine r_iald (p := 111) rfl rfl rfl (vp_in_nI (show j < 100 by omega) (by omega)) rfl ?_
      rw [hN.at hj]
      refine r_zald (p := 112) rfl rfl rfl (vp100 hv) rfl ?_
      rw [hl.2.2.2 x hv]
      refine r_if_ne (p := 115) rfl rfl (fun c2 => ?_) (fun c2 => ?_)
      · refine r_iinc (v := (nI (j + 1))) (p := 133) rfl rfl (nI_1 j) rfl rfl ?_
        refine r_goto rfl ?_
        have hm : x ∈ l := Classical.byContradiction fun q => c2 (by rw [if_neg q])
        have e : frO l (s, m) x = (s, m) := if_pos hm
        rw [List.foldl_cons, e] at hQ
        exact lp_X7_min2 t (j + 1) s F M m ht hd hL hR H hl hQ
      · refine r_aload_n (p := 116) rfl rfl rfl ?_
        refine r_getR (p := 119) rfl rfl rfl rfl rfl ?_
        refine r_aload_n (p := 120) rfl rfl rfl ?_
        refine r_getR (p := 123) rfl rfl rfl rfl rfl ?_
        refine r_iload_n (p := 124) rfl rfl rfl ?_
        refine r_iald (p := 125) rfl rfl rfl (vp_in_nI (show j < 100 by omega) (by omega)) rfl ?_
        rw [hN.at hj]
        refine r_iconst (v := 0) (p := 126) rfl rfl rfl ?_
        refine r_iast (p := 127) rfl rfl rfl (vp100 hv) (by decide) rfl ?_
        refine r_iinc (v := (m + 1)) (p := 130) rfl rfl rfl rfl rfl ?_
        refine r_iinc (v := (nI (j + 1))) (p := 133) rfl rfl (nI_1 j) rfl rfl ?_
        refine r_goto rfl ?_
        have hm : x ∉ l := fun q => absurd c2 (by rw [if_pos q]; decide)
        have e : frO l (s, m) x = (wG s (up1 (sG s) x 0), m + 1) := if_neg hm
        rw [List.foldl_cons, e] at hQ
        exact lp_X7_min2 t (j + 1) (wG s (up1 (sG s) x 0)) F _ (m + 1) ht hd hL hR H.fr0 hl (fun F' M' l2 R I f => hQ F' M' l2 R I ((frR.m (by omega)).tr f))
set_option maxRecDepth 100000 in
theorem lp_X7_min3 {d : Nat} {Y : mY} {L : mL} {l : List Int32} {m : Int32} {Q : Option Value → mW → Prop} :
    ∀ (t : List Int32) (j : Nat) (s : mSt) (F : mF) (M : mM), l.drop j = t → j ≤ l.length → (sNu s).length ≤ j → RR s F M → VS l F M → (∀ F' M' l2, RR (wNu s (sNu s ++ t.filter (fun i => decide (sG s i = 1)))) F' M' → VS l F' M' → frR F M F' M' → Wp (d + 4) tX7_minorCollection 197 [some (.ref 34), some (.int m), some l2] [] (mXY Y, F', M', L) Q) → Wp (d + 4) tX7_minorCollection 143 [some (.ref 34), some (.int m), some (.int (nI j))] [] (mXY Y, F, M, L) Q
  | [], j, s, F, M, hj, hjl, hnl, H, hl, hQ => by
    have hd : l.length ≤ j := List.drop_eq_nil_iff.mp hj
    have hL := hl.len
    rw [List.filter_nil, List.append_nil] at hQ
    refine r_iload_n (p := 144) rfl rfl rfl ?_
    refine r_aload_n (p := 145) rfl rfl rfl ?_
    refine r_getI (p := 148) rfl rfl rfl rfl ?_
    rw [hl.1.1]
    refine r_icmp_ge (p := 151) rfl rfl (fun c1 => ?_) (fun c1 => ?_)
    · exact hQ F M _ H hl frR.rf
    · exact absurd (nI_le hd (by omega)) c1
  | x :: t, j, s, F, M, hj, hjl, hnl, H, hl, hQ => by
    have hL := hl.len
    obtain ⟨hd, hx, ht⟩ := drop_c (z := 0) hj
    have hv : inR x := hl.2.2.1 x (by rw [← hx]; exact getD_mem hd)
    refine r_iload_n (p := 144) rfl rfl rfl ?_
    refine r_aload_n (p := 145) rfl rfl rfl ?_
    refine r_getI (p := 148) rfl rfl rfl rfl ?_
    rw [hl.1.1]
    refine r_icmp_ge (p := 151) rfl rfl (fun c1 => ?_) (fun c1 => ?_)
    · exact absurd c1 (nI_ge hd (by omega))
    · refine r_aload_n (p := 152) rfl rfl rfl ?_
      refine r_getR (p := 155) rfl rfl rfl rfl rfl ?_
      refine r_aload_n (p := 156) rfl rfl rfl ?_
      refine r_getR (p := 159) rfl rfl rfl rfl rfl ?_
      refine r_iload_n (p := 160) rfl rfl rfl ?_
      refine r_iald (p := 161) rfl rfl rfl (vp_in_nI (show j < 100 by omega) (by omega)) rfl ?_
      rw [hl.1.at hj]
      refine r_iald (p := 162) rfl rfl rfl (vp100 hv) rfl ?_
      rw [H.1 x hv]
      refine r_iconst (v := 1) (p := 163) rfl rfl rfl ?_
      refine r_icmp_ne (p := 166) rfl rfl (fun c2 => ?_) (fun c2 => ?_)
      · refine r_iinc (v := (nI (j + 1))) (p := 194) rfl rfl (nI_1 j) rfl rfl ?_
        refine r_goto rfl ?_
        rw [List.filter_cons_of_neg (by simpa using c2)] at hQ
        exact lp_X7_min3 t (j + 1) s F M ht hd (by omega) H hl hQ
      · refine r_aload_n (p := 167) rfl rfl rfl ?_
        refine r_getR (p := 170) rfl rfl rfl rfl rfl ?_
        refine r_aload_n (p := 171) rfl rfl rfl ?_
        refine r_getI (p := 174) rfl rfl rfl rfl ?_
        refine r_aload_n (p := 175) rfl rfl rfl ?_
        refine r_getR (p := 178) rfl rfl rfl rfl rfl ?_
        refine r_iload_n (p := 179) rfl rfl rfl ?_
        refine r_iald (p := 180) rfl rfl rfl (vp_in_nI (show j < 100 by omega) (by omega)) rfl ?_
        rw [hl.1.at hj]
        refine r_iast (p := 181) rfl rfl rfl (by rw [H.2.2.2.2.2.2.1.1]; exact vp_in_nI (show (sNu s).length < 100 by omega) (by omega)) (by decide) rfl ?_
        refine r_aload_n (p := 182) rfl rfl rfl ?_
        refine r_dup (p := 183) rfl rfl rfl ?_
        refine r_getI (p := 186) rfl rfl rfl rfl ?_
        refine r_iconst (v := 1) (p := 187) rfl rfl rfl ?_
        refine r_iadd (p := 188) rfl rfl ?_
        refine r_putI (p := 191) rfl rfl rfl rfl ?_
        refine r_iinc (v := (nI (j + 1))) (p := 194) rfl rfl (nI_1 j) rfl rfl ?_
        refine r_goto rfl ?_
        rw [List.filter_cons_of_pos (by simpa using c2)] at hQ
        have H1 := H.pushN (show (sNu s).length < 100 by omega) x
        have e : sNu s ++ x :: t.filter (fun i => decide (sG s i = 1)) = (sNu s ++ [x]) ++ t.filter (fun i => decide (sG s i = 1)) := by simp
        rw [e] at hQ
        exact lp_X7_min3 t (j + 1) (wNu s (sNu s ++ [x])) _ _ ht hd (by show (sNu s ++ [x]).length ≤ j + 1; rw [List.length_append]; simp; omega) H1 hl (fun F' M' l2 R I f => hQ F' M' l2 R I (((frR.m (by omega)).tr (frR.f (by omega))).tr f))
