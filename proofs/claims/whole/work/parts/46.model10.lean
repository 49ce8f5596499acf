theorem fil_take {p : Int32 → Bool} {l : List Int32} {k : Nat} (hk : k < l.length) : (l.take (k + 1)).filter p = if p (l.getD k 0) = true then (l.take k).filter p ++ [l.getD k 0] else (l.take k).filter p := by
  have e : l.take (k + 1) = l.take k ++ [l.getD k 0] := by
    rw [List.take_succ]
    simp [List.getD_eq_getElem?_getD, List.getElem?_eq_getElem hk]
  rw [e, List.filter_append]
  by_cases h : p (l.getD k 0) = true
  · rw [if_pos h, List.filter_cons_of_pos h]; rfl
  · rw [if_neg h, List.filter_cons_of_neg h]; simp
theorem fil_len {p : Int32 → Bool} {l : List Int32} {k : Nat} (hk : k ≤ l.length) : ((l.take k).filter p).length ≤ k := by
  refine Nat.le_trans (List.length_filter_le _ _) ?_
  simp
  omega
def rowL (row : Int32 → Int32) (n : Nat) : List Int32 := (List.range n).map (fun k => row (nI k))
theorem LL_row {row : Int32 → Int32} {n : Nat} : LL (nI n) row (rowL row n) := ⟨by unfold rowL; simp, fun k hk => by
  unfold rowL at *
  simp only [List.length_map, List.length_range] at hk
  simp [List.getD_eq_getElem?_getD, hk]⟩
theorem RR.rowK {s : mSt} {F : mF} {M M1 : mM} (H : RR s F M) (hM : ∀ a i, a ≠ 42 → M1 a i = M a i) : RR (wKn s (rowL (M1 42) (sKn s).length)) F M1 := by
  obtain ⟨k1, k2, k3, k4, k5, k6, l1, l2, l3, l4, e⟩ := H
  exact ⟨fun i hi => by rw [hM _ _ (by omega)]; exact k1 i hi, fun i hi => by rw [hM _ _ (by omega)]; exact k2 i hi, fun i hi => by rw [hM _ _ (by omega)]; exact k3 i hi, fun i hi a b => by rw [hM _ _ (by omega)]; exact k4 i hi a b, fun i j hi a b => by rw [hM _ _ (by omega)]; exact k5 i j hi a b, fun k hk => by rw [hM _ _ (by omega)]; exact k6 k hk, ⟨l1.1, fun q hq => by rw [hM _ _ (by omega)]; exact l1.2 q hq⟩, (by rw [l2.1]; exact LL_row), ⟨l3.1, fun q hq => by rw [hM _ _ (by omega)]; exact l3.2 q hq⟩, ⟨l4.1, fun q hq => by rw [hM _ _ (by omega)]; exact l4.2 q hq⟩, e⟩
set_option maxRecDepth 100000 in
theorem lp_X7_keep1 {d : Nat} {Y : mY} {F : mF} {M : mM} {L : mL} {s : mSt} {Q : Option Value → mW → Prop} (H : RR s F M) (hI : InvW s) (hlen : (sKn s).length ≤ 100) (hQ : ∀ M' l2, (∀ p, p < ((sKn s).filter (hasY s)).length → M' 42 (nI p) = ((sKn s).filter (hasY s)).getD p 0) → (∀ a i, a ≠ 42 → M' a i = M a i) → Wp (d + 2) tX7_keepRemembered 46 [some (.ref 34), some (.int (nI ((sKn s).filter (hasY s)).length)), some l2] [] (mXY Y, F, M', L) Q) :
    ∀ (n q : Nat) (M1 : mM), q + n = (sKn s).length → (∀ p, p < (((sKn s).take q).filter (hasY s)).length → M1 42 (nI p) = (((sKn s).take q).filter (hasY s)).getD p 0) → (∀ p, q ≤ p → p < (sKn s).length → M1 42 (nI p) = (sKn s).getD p 0) → (∀ a i, a ≠ 42 → M1 a i = M a i) → Wp (d + 2) tX7_keepRemembered 4 [some (.ref 34), some (.int (nI (((sKn s).take q).filter (hasY s)).length)), some (.int (nI q))] [] (mXY Y, F, M1, L) Q
  | 0, q, M1, hq, i1, i2, i3 => by
    have hF := H.2.2.2.2.2.2.2.1.1
    refine r_iload_n (p := 5) rfl rfl rfl ?_
    refine r_aload_n (p := 6) rfl rfl rfl ?_
    refine r_getI (p := 9) rfl rfl rfl rfl ?_
    rw [hF]
    refine r_icmp_ge (p := 12) rfl rfl (fun c1 => ?_) (fun c1 => ?_)
    · have hke : (sKn s).take q = sKn s := List.take_of_length_le (by omega)
      rw [hke] at i1 ⊢
      exact hQ M1 _ i1 i3
    · exact absurd (nI_le (a := (sKn s).length) (b := q) (by omega) (by omega)) c1
  | n + 1, q, M1, hq, i1, i2, i3 => by
    have hF := H.2.2.2.2.2.2.2.1.1
    have hql : q < (sKn s).length := by omega
    have e0 := i2 q (Nat.le_refl _) hql
    have ef := fil_take (p := hasY s) hql
    have hj := fil_len (p := hasY s) (l := sKn s) (k := q) (by omega)
    have ho := hI.2.2.2.2.2.2.1.2 ((sKn s).getD q 0) (getD_mem hql)
    refine r_iload_n (p := 5) rfl rfl rfl ?_
    refine r_aload_n (p := 6) rfl rfl rfl ?_
    refine r_getI (p := 9) rfl rfl rfl rfl ?_
    rw [hF]
    refine r_icmp_ge (p := 12) rfl rfl (fun c1 => ?_) (fun c1 => ?_)
    · exact absurd c1 (nI_ge (a := q) (b := (sKn s).length) (by omega) (by omega))
    · refine r_aload_n (p := 13) rfl rfl rfl ?_
      refine r_aload_n (p := 14) rfl rfl rfl ?_
      refine r_getR (p := 17) rfl rfl rfl rfl rfl ?_
      refine r_iload_n (p := 18) rfl rfl rfl ?_
      refine r_iald (p := 19) rfl rfl rfl (vp_in_nI (show q < 100 by omega) (by omega)) rfl ?_
      rw [e0]
      refine r_cV (p := 22) rfl rfl rfl (Nat.le_of_ble_eq_true rfl) rfl (s_X7_hasYoung (s := wKn s (rowL (M1 42) (sKn s).length)) (H.rowK i3) (hI.2.2.1 _ ho.1) ho.1 hI.2.2.2.1 ?_)
      rw [show hasY (wKn s (rowL (M1 42) (sKn s).length)) ((sKn s).getD q 0) = hasY s ((sKn s).getD q 0) from rfl]
      refine r_if_eq (p := 25) rfl rfl (fun c2 => ?_) (fun c2 => ?_)
      · refine r_iinc (v := (nI (q + 1))) (p := 43) rfl rfl (nI_1 _) rfl rfl ?_
        refine r_goto rfl ?_
        have hh : ¬ hasY s ((sKn s).getD q 0) = true := fun w => absurd c2 (by rw [if_pos w]; decide)
        rw [if_neg hh] at ef
        have z := lp_X7_keep1 (d := d) H hI hlen hQ n (q + 1) M1 (by omega) (by rw [ef]; exact i1) (fun p hp hp2 => i2 p (by omega) hp2) i3
        rw [ef] at z
        exact z
      · refine r_aload_n (p := 26) rfl rfl rfl ?_
        refine r_getR (p := 29) rfl rfl rfl rfl rfl ?_
        refine r_iload_n (p := 30) rfl rfl rfl ?_
        refine r_aload_n (p := 31) rfl rfl rfl ?_
        refine r_getR (p := 34) rfl rfl rfl rfl rfl ?_
        refine r_iload_n (p := 35) rfl rfl rfl ?_
        refine r_iald (p := 36) rfl rfl rfl (vp_in_nI (show q < 100 by omega) (by omega)) rfl ?_
        rw [e0]
        refine r_iast (p := 37) rfl rfl rfl (vp_in_nI (show (((sKn s).take q).filter (hasY s)).length < 100 by omega) (by omega)) (by decide) rfl ?_
        refine r_iinc (v := (nI ((((sKn s).take q).filter (hasY s)).length + 1))) (p := 40) rfl rfl (nI_1 _) rfl rfl ?_
        refine r_iinc (v := (nI (q + 1))) (p := 43) rfl rfl (nI_1 _) rfl rfl ?_
        refine r_goto rfl ?_
        have hh : hasY s ((sKn s).getD q 0) = true := Classical.byContradiction fun w => c2 (if_neg w)
        rw [if_pos hh] at ef
        have z := lp_X7_keep1 (d := d) H hI hlen hQ n (q + 1) (uM M1 42 (nI (((sKn s).take q).filter (hasY s)).length) ((sKn s).getD q 0)) (by omega) (by
          rw [ef]
          intro p hp
          simp only [List.length_append, List.length_singleton] at hp
          rw [uM_at]
          by_cases hpj : p = (((sKn s).take q).filter (hasY s)).length
          · rw [if_pos (by rw [hpj]), hpj]; simp
          · rw [if_neg (fun z => hpj (nI_inj (by omega) (by omega) z)), i1 p (by omega)]
            simp [List.getD_eq_getElem?_getD, List.getElem?_append_left (show p < (((sKn s).take q).filter (hasY s)).length by omega)]) (fun p hp hp2 => by
          rw [uM_at, if_neg (fun z => by have := nI_inj (by omega) (by omega) z; omega)]
          exact i2 p (by omega) hp2) (fun a i ha => by rw [uM_ne ha]; exact i3 a i ha)
        rw [ef, List.length_append, List.length_singleton] at z
        exact z
set_option maxRecDepth 100000 in
theorem lp_X7_keep2 {d : Nat} {Y : mY} {L : mL} {l : List Int32} {w : Int32} {Q : Option Value → mW → Prop} :
    ∀ (t : List Int32) (j : Nat) (s : mSt) (F : mF) (M : mM), l.drop j = t → j ≤ l.length → (∀ i, inR i → ∃ n, n ≤ 4 ∧ sN s i = nI n) → (∀ k, sR s k = -1 ∨ inR (sR s k)) → (sKn s ++ t.filter (fun i => hasY s i && decide (sG s i = 2))).length ≤ 100 → RR s F M → VS l F M → (∀ F' M', RR (wKn s (sKn s ++ t.filter (fun i => hasY s i && decide (sG s i = 2)))) F' M' → frR F M F' M' → Q none (mXY Y, F', M', L)) → Wp (d + 2) tX7_keepRemembered 53 [some (.ref 34), some (.int w), some (.int (nI j))] [] (mXY Y, F, M, L) Q
  | [], j, s, F, M, hj, hjl, h3, h4, h5, H, hl, hQ => by
    have hd : l.length ≤ j := List.drop_eq_nil_iff.mp hj
    have hL := hl.len
    rw [List.filter_nil, List.append_nil] at hQ
    refine r_iload_n (p := 54) rfl rfl rfl ?_
    refine r_aload_n (p := 55) rfl rfl rfl ?_
    refine r_getI (p := 58) rfl rfl rfl rfl ?_
    rw [hl.1.1]
    refine r_icmp_ge (p := 61) rfl rfl (fun c1 => ?_) (fun c1 => ?_)
    · refine r_return rfl ?_
      exact hQ F M H frR.rf
    · exact absurd (nI_le hd (by omega)) c1
  | x :: t, j, s, F, M, hj, hjl, h3, h4, h5, H, hl, hQ => by
    have hL := hl.len
    obtain ⟨hd, hx, ht⟩ := drop_c (z := 0) hj
    have hv : inR x := hl.2.2.1 x (by rw [← hx]; exact getD_mem hd)
    refine r_iload_n (p := 54) rfl rfl rfl ?_
    refine r_aload_n (p := 55) rfl rfl rfl ?_
    refine r_getI (p := 58) rfl rfl rfl rfl ?_
    rw [hl.1.1]
    refine r_icmp_ge (p := 61) rfl rfl (fun c1 => ?_) (fun c1 => ?_)
    · exact absurd c1 (nI_ge hd (by omega))
    · refine r_aload_n (p := 62) rfl rfl rfl ?_
      refine r_getR (p := 65) rfl rfl rfl rfl rfl ?_
      refine r_aload_n (p := 66) rfl rfl rfl ?_
      refine r_getR (p := 69) rfl rfl rfl rfl rfl ?_
      refine r_iload_n (p := 70) rfl rfl rfl ?_
      refine r_iald (p := 71) rfl rfl rfl (vp_in_nI (show j < 100 by omega) (by omega)) rfl ?_
      rw [hl.1.at hj]
      refine r_iald (p := 72) rfl rfl rfl (vp100 hv) rfl ?_
      rw [H.1 x hv]
      refine r_iconst (v := 2) (p := 73) rfl rfl rfl ?_
      refine r_icmp_ne (p := 76) rfl rfl (fun c2 => ?_) (fun c2 => ?_)
      · refine r_iinc (v := (nI (j + 1))) (p := 117) rfl rfl (nI_1 j) rfl rfl ?_
        refine r_goto rfl ?_
        have hp : ¬ (hasY s x && decide (sG s x = 2)) = true := by simp [c2]
        rw [List.filter_cons_of_neg (p := fun i => hasY s i && decide (sG s i = 2)) hp] at hQ h5
        exact lp_X7_keep2 t (j + 1) s F M ht hd h3 h4 h5 H hl hQ
      · refine r_aload_n (p := 77) rfl rfl rfl ?_
        refine r_aload_n (p := 78) rfl rfl rfl ?_
        refine r_getR (p := 81) rfl rfl rfl rfl rfl ?_
        refine r_iload_n (p := 82) rfl rfl rfl ?_
        refine r_iald (p := 83) rfl rfl rfl (vp_in_nI (show j < 100 by omega) (by omega)) rfl ?_
        rw [hl.1.at hj]
        refine r_cV (p := 86) rfl rfl rfl (Nat.le_of_ble_eq_true rfl) rfl (s_X7_hasYoung H (h3 x hv) hv h4 ?_)
        refine r_if_eq (p := 89) rfl rfl (fun c3 => ?_) (fun c3 => ?_)
        · refine r_iinc (v := (nI (j + 1))) (p := 117) rfl rfl (nI_1 j) rfl rfl ?_
          refine r_goto rfl ?_
          have hp : ¬ (hasY s x && decide (sG s x = 2)) = true := fun q => absurd c3 (by rw [if_pos (by revert q; cases hasY s x <;> simp)]; decide)
          rw [List.filter_cons_of_neg (p := fun i => hasY s i && decide (sG s i = 2)) hp] at hQ h5
          exact lp_X7_keep2 t (j + 1) s F M ht hd h3 h4 h5 H hl hQ
        · have hh : hasY s x = true := Classical.byContradiction fun q => c3 (if_neg q)
          have hp : (hasY s x && decide (sG s x = 2)) = true := by rw [hh, decide_eq_true c2]; rfl
          rw [List.filter_cons_of_pos (p := fun i => hasY s i && decide (sG s i = 2)) hp] at hQ h5
          have e : sKn s ++ x :: t.filter (fun i => hasY s i && decide (sG s i = 2)) = (sKn s ++ [x]) ++ t.filter (fun i => hasY s i && decide (sG s i = 2)) := by simp
          rw [e] at hQ h5
          have hk : (sKn s).length < 100 := by rw [List.length_append, List.length_append] at h5; simp at h5; omega
          refine r_aload_n (p := 90) rfl rfl rfl ?_
          refine r_getR (p := 93) rfl rfl rfl rfl rfl ?_
          refine r_aload_n (p := 94) rfl rfl rfl ?_
          refine r_getI (p := 97) rfl rfl rfl rfl ?_
          refine r_aload_n (p := 98) rfl rfl rfl ?_
          refine r_getR (p := 101) rfl rfl rfl rfl rfl ?_
          refine r_iload_n (p := 102) rfl rfl rfl ?_
          refine r_iald (p := 103) rfl rfl rfl (vp_in_nI (show j < 100 by omega) (by omega)) rfl ?_
          rw [hl.1.at hj]
          refine r_iast (p := 104) rfl rfl rfl (by rw [H.2.2.2.2.2.2.2.1.1]; exact vp_in_nI hk (by omega)) (by decide) rfl ?_
          refine r_aload_n (p := 105) rfl rfl rfl ?_
          refine r_dup (p := 106) rfl rfl rfl ?_
          refine r_getI (p := 109) rfl rfl rfl rfl ?_
          refine r_iconst (v := 1) (p := 110) rfl rfl rfl ?_
          refine r_iadd (p := 111) rfl rfl ?_
          refine r_putI (p := 114) rfl rfl rfl rfl ?_
          refine r_iinc (v := (nI (j + 1))) (p := 117) rfl rfl (nI_1 j) rfl rfl ?_
          refine r_goto rfl ?_
          exact lp_X7_keep2 t (j + 1) (wKn s (sKn s ++ [x])) _ _ ht hd h3 h4 h5 (H.pushK (by omega) x) hl (fun F' M' R f => hQ F' M' R (((frR.m (by omega)).tr (frR.f (by omega))).tr f))
set_option maxRecDepth 100000 in
theorem s_X7_keepRemembered {d : Nat} {Y : mY} {F : mF} {M : mM} {L : mL} {s : mSt} {l : List Int32} {Q : Option Value → mW → Prop} (H : RR s F M) (hI : InvW s) (hl : VS l F M) (hn : (rnK s l).2.1.2.1.length ≤ 100) (hQ : ∀ F' M', RR (rnK s l) F' M' → frR F M F' M' → Q none (mXY Y, F', M', L)) : Cw (d + 3) 23 [.ref 34] (mXY Y, F, M, L) Q := by
  have hkl : (sKn s).length ≤ 100 := nd_le100 hI.2.2.2.2.2.2.1.1 (fun x hx => (hI.2.2.2.2.2.2.1.2 x hx).1)
  have er : rnK s l = wKn s ((sKn s).filter (hasY s) ++ l.filter (fun i => hasY s i && decide (sG s i = 2))) := by
    unfold rnK
    rw [List.filter_append, List.filter_filter]
  have hN := H.2.2.2.2.2.2.2.1
  refine Cw_in rfl rfl ?_
  refine r_iconst (v := 0) (p := 1) rfl rfl rfl ?_
  refine r_istore_n (p := 2) rfl rfl rfl ?_
  refine r_iconst (v := 0) (p := 3) rfl rfl rfl ?_
  refine r_istore_n (p := 4) rfl rfl rfl ?_
  refine lp_X7_keep1 H hI hkl (fun M1 l2 i1 i2 => ?_) (sKn s).length 0 M (by omega) (fun p hp => absurd hp (Nat.not_lt_zero _)) (fun p _ hp => hN.2 p hp) (fun _ _ _ => rfl)
  have H1 : RR (wKn s ((sKn s).filter (hasY s))) (uF F 34 13 (nI ((sKn s).filter (hasY s)).length)) M1 := by
    obtain ⟨k1, k2, k3, k4, k5, k6, l1, l2, l3, l4, e⟩ := H
    exact ⟨fun i hi => by rw [i2 _ _ (by omega)]; exact k1 i hi, fun i hi => by rw [i2 _ _ (by omega)]; exact k2 i hi, fun i hi => by rw [i2 _ _ (by omega)]; exact k3 i hi, fun i hi a b => by rw [i2 _ _ (by omega)]; exact k4 i hi a b, fun i j hi a b => by rw [i2 _ _ (by omega)]; exact k5 i j hi a b, fun k hk => by rw [i2 _ _ (by omega)]; exact k6 k hk, ⟨l1.1, fun q hq => by rw [i2 _ _ (by omega)]; exact l1.2 q hq⟩, ⟨rfl, i1⟩, ⟨l3.1, fun q hq => by rw [i2 _ _ (by omega)]; exact l3.2 q hq⟩, ⟨l4.1, fun q hq => by rw [i2 _ _ (by omega)]; exact l4.2 q hq⟩, e⟩
  have hl1 : VS l (uF F 34 13 (nI ((sKn s).filter (hasY s)).length)) M1 := ⟨⟨hl.1.1, fun q hq => by rw [i2 _ _ (by omega)]; exact hl.1.2 q hq⟩, hl.2.1, hl.2.2.1, fun i hi => by rw [i2 _ _ (by omega)]; exact hl.2.2.2 i hi⟩
  have f1 : frR F M (uF F 34 13 (nI ((sKn s).filter (hasY s)).length)) M1 := ⟨(frR.f (F := F) (M := M) (k := 13) (by omega)).1, fun a i ha => i2 a i (by omega)⟩
  rw [er] at hQ hn
  refine r_aload_n (p := 47) rfl rfl rfl ?_
  refine r_iload_n (p := 48) rfl rfl rfl ?_
  refine r_putI (p := 51) rfl rfl rfl rfl ?_
  refine r_iconst (v := 0) (p := 52) rfl rfl rfl ?_
  refine r_istore_n (p := 53) rfl rfl rfl ?_
  exact lp_X7_keep2 l 0 (wKn s ((sKn s).filter (hasY s))) _ M1 rfl (Nat.zero_le _) hI.2.2.1 hI.2.2.2.1 hn H1 hl1 (fun F' M' R f => hQ F' M' R (f1.tr f))
set_option maxRecDepth 100000 in
theorem s_X7_minorCollection {d : Nat} {Y : mY} {F : mF} {M : mM} {L : mL} {s : mSt} {Q : Option Value → mW → Prop} (H : RR s F M) (hI : Inv s) (hQ : ∀ F' M', RR (minr s).2 F' M' → frR F M F' M' → Q (some (.int (minr s).1)) (mXY Y, F', M', L)) : Cw (d + 5) 24 [.ref 34] (mXY Y, F, M, L) Q := by
  have hnu := hI.2.2.2.2.2.1
  have a := age_all trc_nd (fun x hx => trc_y x hx) hI.w
  have b1 : (sNu ((trc s).foldl agS s)).Nodup := by rw [a.2.1.2.2.2.1]; exact hnu.1
  have b2 : ∀ x ∈ sNu ((trc s).foldl agS s), x ∉ trc s → yngP ((trc s).foldl agS s) x := fun x hx hl => by
    rw [a.2.1.2.2.2.1] at hx
    have := (hnu.2 x).mp hx
    exact ⟨this.1, by rw [a.2.2.1 x hl]; exact this.2⟩
  have b := fre_all (l := trc s) (t := sNu ((trc s).foldl agS s)) (s := (trc s).foldl agS s) (n := 0) b1 b2 a.1
  have hm := Inv_minr hI
  refine Cw_in rfl rfl ?_
  refine r_aload_n (p := 1) rfl rfl rfl ?_
  refine r_cV (p := 4) rfl rfl rfl (Nat.le_of_ble_eq_true rfl) rfl (s_X7_trace H hI (fun F1 M1 R1 I1 f1 => ?_))
  refine r_iconst (v := 0) (p := 5) rfl rfl rfl ?_
  refine r_istore_n (p := 6) rfl rfl rfl ?_
  refine lp_X7_min1 (trc s) 0 s F1 M1 none rfl (Nat.zero_le _) R1 hI.w I1 trc_nd (fun x hx => trc_y x hx) (fun F2 M2 l1 z R2 I2 f2 => ?_)
  refine r_iconst (v := 0) (p := 90) rfl rfl rfl ?_
  refine r_istore_n (p := 91) rfl rfl rfl ?_
  refine r_iconst (v := 0) (p := 92) rfl rfl rfl ?_
  refine r_istore_n (p := 93) rfl rfl rfl ?_
  refine lp_X7_min2 (sNu ((trc s).foldl agS s)) 0 _ F2 M2 0 rfl (Nat.zero_le _) (by rw [a.2.1.2.2.2.1]; exact hI.nul) (fun x hx => a.1.2.2.2.2.2.1.2 x hx) R2 I2 (fun F3 M3 l2 R3 I3 f3 => ?_)
  have R3 : RR (fre ((trc s).foldl agS s) (trc s)).1 F3 M3 := R3
  refine r_aload_n (p := 137) rfl rfl rfl ?_
  refine r_iconst (v := 0) (p := 138) rfl rfl rfl ?_
  refine r_putI (p := 141) rfl rfl rfl rfl ?_
  refine r_iconst (v := 0) (p := 142) rfl rfl rfl ?_
  refine r_istore_n (p := 143) rfl rfl rfl ?_
  refine lp_X7_min3 (trc s) 0 (wNu (fre ((trc s).foldl agS s) (trc s)).1 []) _ M3 rfl (Nat.zero_le _) (Nat.le_refl 0) R3.nu0 I3 (fun F4 M4 l3 R4 I4 f4 => ?_)
  have R4 : RR (rnN (fre ((trc s).foldl agS s) (trc s)).1 (trc s)) F4 M4 := R4
  refine r_aload_n (p := 198) rfl rfl rfl ?_
  refine r_cV (p := 201) rfl rfl rfl (Nat.le_of_ble_eq_true rfl) rfl (s_X7_keepRemembered R4 ⟨b.1.1, b.1.2.1, b.1.2.2.1, b.1.2.2.2.1, b.1.2.2.2.2.1, ⟨trc_nd.filter _, fun i hi => (trc_y i (List.mem_filter.mp hi).1).1⟩, b.1.2.2.2.2.2.2⟩ I4 hm.knl (fun F5 M5 R5 f5 => ?_))
  refine r_aload_n (p := 202) rfl rfl rfl ?_
  refine r_dup (p := 203) rfl rfl rfl ?_
  refine r_getI (p := 206) rfl rfl rfl rfl ?_
  refine r_iconst (v := 1) (p := 207) rfl rfl rfl ?_
  refine r_iadd (p := 208) rfl rfl ?_
  refine r_putI (p := 211) rfl rfl rfl rfl ?_
  refine r_iload_n (p := 212) rfl rfl rfl ?_
  refine r_ireturn rfl trivial ?_
  refine hQ _ _ ?_ (f1.tr (f2.tr (f3.tr ((frR.f (by omega)).tr (f4.tr (f5.tr (frR.f (by omega))))))))
  obtain ⟨c1, c2, c3, c4, c5, c6, l1, l2, l3, l4, e1, e2, e3, e4⟩ := R5
  exact ⟨c1, c2, c3, c4, c5, c6, l1, l2, l3, l4, e1, e2, e3, e4.1, by show F5 34 20 + 1 = _; rw [e4.2]; rfl⟩
