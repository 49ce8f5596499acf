theorem seqI_app : ∀ (a b j : Nat), seqI (a + b) j = seqI a j ++ seqI b (j + a)
  | 0, b, j => by simp [seqI]
  | a + 1, b, j => by
    rw [show a + 1 + b = (a + b) + 1 by omega]
    show nI j :: seqI (a + b) (j + 1) = nI j :: (seqI a (j + 1) ++ seqI b (j + (a + 1)))
    rw [seqI_app a b (j + 1), show j + 1 + a = j + (a + 1) by omega]
theorem filt_nil {p : Int32 → Bool} {l : List Int32} (h : ∀ x ∈ l, p x = false) : l.filter p = [] := List.filter_eq_nil_iff.mpr fun x hx => by rw [h x hx]; decide
theorem oldsL_m {s : mSt} {m : Nat} (hm : m ≤ 100) (hg : ∀ j, m ≤ j → j < 100 → sG s (nI j) = 0) : (seqI m 0).filter (fun i => decide (sG s i = 2)) = oldsL s := by
  unfold oldsL
  have e : seqI 100 0 = seqI m 0 ++ seqI (100 - m) m := by
    have := seqI_app m (100 - m) 0
    rw [show m + (100 - m) = 100 by omega, Nat.zero_add] at this
    exact this
  rw [e, List.filter_append, filt_nil (l := seqI (100 - m) m) (fun x hx => ?_), List.append_nil]
  obtain ⟨q, h1, h2, rfl⟩ := seqI_mem hx
  rw [hg q h1 (by omega)]
  rfl
theorem RR.phs {s : mSt} {F : mF} {M : mM} (H : RR s F M) {x : Int32} (h0 : ¬ sPh s = 0) : RR (wPh s x) (uF F 34 18 x) M := by
  obtain ⟨c1, c2, c3, c4, c5, c6, l1, l2, l3, l4, e1, e2, e3, e4⟩ := H
  exact ⟨c1, c2, c3, fun i hi hg _ => c4 i hi hg h0, c5, c6, l1, l2, l3, l4, e1, e2, ⟨rfl, e3.2⟩, e4⟩
theorem RR.ph0 {s : mSt} {F : mF} {M : mM} (H : RR s F M) {y : Int32} : RR (wMa (wPh s 0) y) (uF (uF F 34 18 0) 34 21 y) M := by
  obtain ⟨c1, c2, c3, c4, c5, c6, l1, l2, l3, l4, e1, e2, e3, e4⟩ := H
  exact ⟨c1, c2, c3, fun i hi hg q => absurd rfl q, c5, c6, l1, l2, l3, l4, e1, e2, ⟨rfl, rfl⟩, e4⟩
theorem RR.sw0 {s : mSt} {F : mF} {M : mM} (H : RR s F M) : RR (wSw s []) (uF F 34 17 0) M := by
  obtain ⟨c1, c2, c3, c4, c5, c6, l1, l2, l3, l4, e⟩ := H
  exact ⟨c1, c2, c3, c4, c5, c6, l1, l2, l3, LL.nil, e⟩
theorem RR.pushS {s : mSt} {F : mF} {M : mM} (H : RR s F M) (hl : (sSw s).length < 100) (v : Int32) : RR (wSw s (sSw s ++ [v])) (uF F 34 17 (F 34 17 + 1)) (uM M 44 (F 34 17) v) := by
  obtain ⟨c1, c2, c3, c4, c5, c6, l1, l2, l3, l4, e⟩ := H
  exact ⟨c1, c2, c3, c4, c5, c6, l1, l2, l3, l4.app (by omega) v, e⟩
set_option maxRecDepth 100000 in
theorem lp_X7_mark {d : Nat} {Y : mY} {L : mL} {m : Nat} {Q : Option Value → mW → Prop} (hm : m ≤ 100) :
    ∀ (n j : Nat) (s : mSt) (F : mF) (M : mM), j + n = m → sAl s = nI m → (sSw s).length ≤ j → RR s F M → (∀ F' M', RR (wSw s (sSw s ++ (seqI n j).filter (fun i => decide (sG s i = 2)))) F' M' → frR F M F' M' → Q none (mXY Y, F', M', L)) → Wp (d + 4) tX7_markUnit 66 [some (.ref 34), some (.int (nI j))] [] (mXY Y, F, M, L) Q
  | 0, j, s, F, M, hj, hal, hs, H, hQ => by
    refine r_iload_n (p := 67) rfl rfl rfl ?_
    refine r_aload_n (p := 68) rfl rfl rfl ?_
    refine r_getI (p := 71) rfl rfl rfl rfl ?_
    rw [H.alw, hal]
    refine r_icmp_ge (p := 74) rfl rfl (fun c1 => ?_) (fun c1 => ?_)
    · refine r_return rfl ?_
      exact hQ F M (by rw [seqI, List.filter_nil, List.append_nil]; exact H) frR.rf
    · exact absurd (nI_le (a := m) (b := j) (by omega) (by omega)) c1
  | n + 1, j, s, F, M, hj, hal, hs, H, hQ => by
    have hi : inR (nI j) := inR_nI (by omega)
    refine r_iload_n (p := 67) rfl rfl rfl ?_
    refine r_aload_n (p := 68) rfl rfl rfl ?_
    refine r_getI (p := 71) rfl rfl rfl rfl ?_
    rw [H.alw, hal]
    refine r_icmp_ge (p := 74) rfl rfl (fun c1 => ?_) (fun c1 => ?_)
    · exact absurd c1 (nI_ge (a := j) (b := m) (by omega) (by omega))
    · refine r_aload_n (p := 75) rfl rfl rfl ?_
      refine r_getR (p := 78) rfl rfl rfl rfl rfl ?_
      refine r_iload_n (p := 79) rfl rfl rfl ?_
      refine r_iald (p := 80) rfl rfl rfl (vp100 hi) rfl ?_
      rw [H.1 _ hi]
      refine r_iconst (v := 2) (p := 81) rfl rfl rfl ?_
      refine r_icmp_ne (p := 84) rfl rfl (fun c2 => ?_) (fun c2 => ?_)
      · refine r_iinc (v := (nI (j + 1))) (p := 107) rfl rfl (nI_1 j) rfl rfl ?_
        refine r_goto rfl ?_
        rw [seqI, List.filter_cons_of_neg (by simpa using c2)] at hQ
        exact lp_X7_mark hm n (j + 1) s F M (by omega) hal (by omega) H hQ
      · refine r_aload_n (p := 85) rfl rfl rfl ?_
        refine r_getR (p := 88) rfl rfl rfl rfl rfl ?_
        refine r_aload_n (p := 89) rfl rfl rfl ?_
        refine r_getI (p := 92) rfl rfl rfl rfl ?_
        refine r_iload_n (p := 93) rfl rfl rfl ?_
        refine r_iast (p := 94) rfl rfl rfl (by rw [H.2.2.2.2.2.2.2.2.2.1.1]; exact vp_in_nI (show (sSw s).length < 100 by omega) (by omega)) (by decide) rfl ?_
        refine r_aload_n (p := 95) rfl rfl rfl ?_
        refine r_dup (p := 96) rfl rfl rfl ?_
        refine r_getI (p := 99) rfl rfl rfl rfl ?_
        refine r_iconst (v := 1) (p := 100) rfl rfl rfl ?_
        refine r_iadd (p := 101) rfl rfl ?_
        refine r_putI (p := 104) rfl rfl rfl rfl ?_
        refine r_iinc (v := (nI (j + 1))) (p := 107) rfl rfl (nI_1 j) rfl rfl ?_
        refine r_goto rfl ?_
        rw [seqI, List.filter_cons_of_pos (by simpa using c2)] at hQ
        have H1 := H.pushS (show (sSw s).length < 100 by omega) (nI j)
        have e : sSw s ++ nI j :: (seqI n (j + 1)).filter (fun i => decide (sG s i = 2)) = (sSw s ++ [nI j]) ++ (seqI n (j + 1)).filter (fun i => decide (sG s i = 2)) := by simp
        rw [e] at hQ
        exact lp_X7_mark hm n (j + 1) (wSw s (sSw s ++ [nI j])) _ _ (by omega) hal (by show (sSw s ++ [nI j]).length ≤ j + 1; rw [List.length_append]; simp; omega) H1 (fun F' M' R f => hQ F' M' R (((frR.m (by omega)).tr (frR.f (by omega))).tr f))
set_option maxRecDepth 100000 in
theorem s_X7_markUnit {d : Nat} {Y : mY} {F : mF} {M : mM} {L : mL} {s : mSt} {Q : Option Value → mW → Prop} (H : RR s F M) (hI : Inv s) (hp : sPh s = 1) (hQ : ∀ F' M', RR (unt s) F' M' → frR F M F' M' → Q none (mXY Y, F', M', L)) : Cw (d + 5) 30 [.ref 34] (mXY Y, F, M, L) Q := by
  have hL := H.2.2.2.2.2.2.2.2.1
  have hl := hI.qul
  have hp2 : ¬ sPh s = 2 := by rw [hp]; decide
  refine Cw_in rfl rfl ?_
  refine r_aload_n (p := 1) rfl rfl rfl ?_
  refine r_getI (p := 4) rfl rfl rfl rfl ?_
  refine r_if_le (p := 7) rfl rfl (fun c1 => ?_) (fun c1 => ?_)
  · have hq : sQu s = [] := le_nil (by omega) (by rw [← hL.1]; exact c1)
    have I1 := Inv_scan hI hp
    refine r_aload_n (p := 44) rfl rfl rfl ?_
    refine r_cV (p := 47) rfl rfl rfl (Nat.le_of_ble_eq_true rfl) rfl (s_X7_rootScan H hI hp (fun F1 M1 R1 f1 => ?_))
    refine r_aload_n (p := 48) rfl rfl rfl ?_
    refine r_getI (p := 51) rfl rfl rfl rfl ?_
    refine r_if_ne (p := 54) rfl rfl (fun c2 => ?_) (fun c2 => ?_)
    · have e : unt s = scan s := by unfold unt; rw [if_neg hp2, hq]; exact if_neg (fun q => c2 (by rw [R1.2.2.2.2.2.2.2.2.1.1, q]; rfl))
      rw [e] at hQ
      refine r_return rfl ?_
      exact hQ _ _ R1 f1
    · refine r_aload_n (p := 55) rfl rfl rfl ?_
      refine r_iconst (v := 2) (p := 56) rfl rfl rfl ?_
      refine r_putI (p := 59) rfl rfl rfl rfl ?_
      refine r_aload_n (p := 60) rfl rfl rfl ?_
      refine r_iconst (v := 0) (p := 61) rfl rfl rfl ?_
      refine r_putI (p := 64) rfl rfl rfl rfl ?_
      refine r_iconst (v := 0) (p := 65) rfl rfl rfl ?_
      refine r_istore_n (p := 66) rfl rfl rfl ?_
      have hq3 : sQu (scan s) = [] := le_nil (by have := I1.1.qul; omega) (by rw [← R1.2.2.2.2.2.2.2.2.1.1, c2]; decide)
      obtain ⟨m, hm, hal, hg⟩ := I1.1.1
      have e : unt s = stSw (scan s) := by unfold unt; rw [if_neg hp2, hq]; exact if_pos hq3
      rw [e] at hQ
      have H2 := (R1.phs (x := 2) (by rw [I1.2.ph, hp]; decide)).sw0
      refine lp_X7_mark hm m 0 (wSw (wPh (scan s) 2) []) _ _ (by omega) hal (Nat.zero_le _) H2 (fun F' M' R f => hQ F' M' ?_ (f1.tr (((frR.f (by omega)).tr (frR.f (by omega))).tr f)))
      have e2 := oldsL_m (s := scan s) hm hg
      rw [List.nil_append] at R
      unfold stSw
      rw [← e2]
      exact R
  · have hne := ne_cons (l := sQu s) (by rw [← hL.1]; exact c1)
    obtain ⟨v, t, hq⟩ := hne
    obtain ⟨i1, i2, i3, i4⟩ := Inv_tl hI hq
    rw [hq] at hL hl
    refine r_aload_n (p := 8) rfl rfl rfl ?_
    refine r_aload_n (p := 9) rfl rfl rfl ?_
    refine r_getR (p := 12) rfl rfl rfl rfl rfl ?_
    refine r_aload_n (p := 13) rfl rfl rfl ?_
    refine r_getI (p := 16) rfl rfl rfl rfl ?_
    refine r_cV (p := 19) rfl rfl rfl (Nat.le_of_ble_eq_true rfl) rfl (s_X7_takeFirst (h := 43) rfl rfl hl hL (fun M1 j1 j2 => ?_))
    have H1 : RR (wQu s t) (uF F 34 15 (F 34 15 - 1)) M1 := by
      obtain ⟨k1, k2, k3, k4, k5, k6, l1, l2, l3, l4, e⟩ := H
      exact ⟨fun i hi => by rw [j1 _ _ (by omega)]; exact k1 i hi, fun i hi => by rw [j1 _ _ (by omega)]; exact k2 i hi, fun i hi => by rw [j1 _ _ (by omega)]; exact k3 i hi, fun i hi a b => by rw [j1 _ _ (by omega)]; exact k4 i hi a b, fun i j hi a b => by rw [j1 _ _ (by omega)]; exact k5 i j hi a b, fun k hk => by rw [j1 _ _ (by omega)]; exact k6 k hk, ⟨l1.1, fun q hq => by rw [j1 _ _ (by omega)]; exact l1.2 q hq⟩, ⟨l2.1, fun q hq => by rw [j1 _ _ (by omega)]; exact l2.2 q hq⟩, j2, ⟨l4.1, fun q hq => by rw [j1 _ _ (by omega)]; exact l4.2 q hq⟩, e⟩
    refine r_istore_n (p := 20) rfl rfl rfl ?_
    refine r_aload_n (p := 21) rfl rfl rfl ?_
    refine r_dup (p := 22) rfl rfl rfl ?_
    refine r_getI (p := 25) rfl rfl rfl rfl ?_
    refine r_iconst (v := 1) (p := 26) rfl rfl rfl ?_
    refine r_isub (p := 27) rfl rfl ?_
    refine r_putI (p := 30) rfl rfl rfl rfl ?_
    refine r_aload_n (p := 31) rfl rfl rfl ?_
    refine r_iload_n (p := 32) rfl rfl rfl ?_
    refine r_cV (p := 35) rfl rfl rfl (Nat.le_of_ble_eq_true rfl) rfl (s_X7_shadeFields H1 i1 hp i3.1 (fun F2 M2 R2 f2 => ?_))
    refine r_aload_n (p := 36) rfl rfl rfl ?_
    refine r_getR (p := 39) rfl rfl rfl rfl rfl ?_
    refine r_iload_n (p := 40) rfl rfl rfl ?_
    refine r_iconst (v := 2) (p := 41) rfl rfl rfl ?_
    refine r_iast (p := 42) rfl rfl rfl (vp100 i3.1) (by decide) rfl ?_
    have e : unt s = mark s v t := by unfold unt; rw [if_neg hp2, hq]
    rw [e] at hQ
    refine r_return rfl ?_
    refine hQ _ _ (R2.paint v 2) (frR.tr (F1 := uF F 34 15 (F 34 15 - 1)) (M1 := M1) ⟨(frR.f (F := F) (M := M) (k := 15) (by omega)).1, fun a i ha => j1 a i (by omega)⟩ (f2.tr (frR.m (by omega))))
set_option maxRecDepth 100000 in
theorem s_X7_sweepUnit {d : Nat} {Y : mY} {F : mF} {M : mM} {L : mL} {s : mSt} {Q : Option Value → mW → Prop} (H : RR s F M) (hI : Inv s) (hp : sPh s = 2) (hQ : ∀ F' M' r, RR (swp s) F' M' → frR F M F' M' → (r = 0 ∨ r = 1) → cnt (sG (swp s)) 2 = cnt (sG s) 2 - r → Q (some (.int r)) (mXY Y, F', M', L)) : Cw (d + 2) 31 [.ref 34] (mXY Y, F, M, L) Q := by
  have hl := H.2.2.2.2.2.2.2.2.2.1
  have hL := hI.swl
  have h0 : ¬ sPh s = 0 := by rw [hp]; decide
  refine Cw_in rfl rfl ?_
  cases hs : sSw s with
  | nil =>
    rw [hs] at hl
    refine r_aload_n (p := 1) rfl rfl rfl ?_
    refine r_getI (p := 4) rfl rfl rfl rfl ?_
    rw [hl.1]
    refine r_if_ne (p := 7) rfl rfl (fun c1 => ?_) (fun c1 => ?_)
    · exact absurd rfl c1
    · refine r_aload_n (p := 8) rfl rfl rfl ?_
      refine r_iconst (v := 0) (p := 9) rfl rfl rfl ?_
      refine r_putI (p := 12) rfl rfl rfl rfl ?_
      refine r_aload_n (p := 13) rfl rfl rfl ?_
      refine r_dup (p := 14) rfl rfl rfl ?_
      refine r_getI (p := 17) rfl rfl rfl rfl ?_
      refine r_iconst (v := 1) (p := 18) rfl rfl rfl ?_
      refine r_iadd (p := 19) rfl rfl ?_
      refine r_putI (p := 22) rfl rfl rfl rfl ?_
      refine r_iconst (v := 0) (p := 23) rfl rfl rfl ?_
      refine r_ireturn rfl mok_0 ?_
      have e : swp s = wMa (wPh s 0) (sMa s + 1) := by unfold swp; rw [hs]
      have z := H.ph0 (y := sMa s + 1)
      rw [← H.2.2.2.2.2.2.2.2.2.2.2.2.1.2] at z
      refine hQ _ _ 0 ?_ ((frR.f (by omega)).tr (frR.f (by omega))) (Or.inl rfl) (by rw [e]; exact (Int32.sub_zero _).symm)
      rw [e, ← H.2.2.2.2.2.2.2.2.2.2.2.2.1.2]
      exact z
  | cons v t =>
    have hv : oldP s v := hI.2.2.2.2.2.2.2.2.1.2.1 v (by rw [hs]; exact List.mem_cons_self)
    rw [hs] at hl hL
    refine r_aload_n (p := 1) rfl rfl rfl ?_
    refine r_getI (p := 4) rfl rfl rfl rfl ?_
    rw [hl.1]
    refine r_if_ne (p := 7) rfl rfl (fun c1 => ?_) (fun c1 => ?_)
    · refine r_aload_n (p := 25) rfl rfl rfl ?_
      refine r_aload_n (p := 26) rfl rfl rfl ?_
      refine r_getR (p := 29) rfl rfl rfl rfl rfl ?_
      refine r_aload_n (p := 30) rfl rfl rfl ?_
      refine r_getI (p := 33) rfl rfl rfl rfl ?_
      refine r_cV (p := 36) rfl rfl rfl (Nat.le_of_ble_eq_true rfl) rfl (s_X7_takeFirst (h := 44) rfl rfl hL (by rw [← hl.1] at *; exact hl) (fun M1 j1 j2 => ?_))
      have H1 : RR (wSw s t) (uF F 34 17 (F 34 17 - 1)) M1 := by
        obtain ⟨k1, k2, k3, k4, k5, k6, l1, l2, l3, l4, e⟩ := H
        exact ⟨fun i hi => by rw [j1 _ _ (by omega)]; exact k1 i hi, fun i hi => by rw [j1 _ _ (by omega)]; exact k2 i hi, fun i hi => by rw [j1 _ _ (by omega)]; exact k3 i hi, fun i hi a b => by rw [j1 _ _ (by omega)]; exact k4 i hi a b, fun i j hi a b => by rw [j1 _ _ (by omega)]; exact k5 i j hi a b, fun k hk => by rw [j1 _ _ (by omega)]; exact k6 k hk, ⟨l1.1, fun q hq => by rw [j1 _ _ (by omega)]; exact l1.2 q hq⟩, ⟨l2.1, fun q hq => by rw [j1 _ _ (by omega)]; exact l2.2 q hq⟩, ⟨l3.1, fun q hq => by rw [j1 _ _ (by omega)]; exact l3.2 q hq⟩, j2, e⟩
      have F1 : frR F M (uF F 34 17 (F 34 17 - 1)) M1 := ⟨(frR.f (F := F) (M := M) (k := 17) (by omega)).1, fun a i ha => j1 a i (by omega)⟩
      refine r_istore_n (p := 37) rfl rfl rfl ?_
      refine r_aload_n (p := 38) rfl rfl rfl ?_
      refine r_dup (p := 39) rfl rfl rfl ?_
      refine r_getI (p := 42) rfl rfl rfl rfl ?_
      refine r_iconst (v := 1) (p := 43) rfl rfl rfl ?_
      refine r_isub (p := 44) rfl rfl ?_
      refine r_putI (p := 47) rfl rfl rfl rfl ?_
      refine r_aload_n (p := 48) rfl rfl rfl ?_
      refine r_getR (p := 51) rfl rfl rfl rfl rfl ?_
      refine r_iload_n (p := 52) rfl rfl rfl ?_
      refine r_iald (p := 53) rfl rfl rfl (vp100 hv.1) rfl ?_
      refine r_if_eq (p := 56) rfl rfl (fun c2 => ?_) (fun c2 => ?_)
      · have hw : sC s v = 0 := by rw [← H1.2.2.2.1 v hv.1 hv.2 h0]; exact c2
        have e : swp s = wKn (wG (wSw s t) (up1 (sG s) v 0)) (flt v (sKn s)) := by unfold swp; rw [hs]; exact if_pos hw
        have H2 : RR (wG (wSw s t) (up1 (sG s) v 0)) (uF F 34 17 (F 34 17 - 1)) (uM M1 35 v 0) := by
          obtain ⟨k1, k2, k3, k4, k5, k6, e⟩ := H1
          refine ⟨fun i hi => ?_, k2, k3, fun i hi hg hq => k4 i hi ?_ hq, k5, k6, e⟩
          · rw [uM_at]; show _ = if i = v then 0 else sG s i; rw [k1 i hi]
          · have hg : (if i = v then 0 else sG s i) = 2 := hg
            split at hg
            · exact absurd hg (by decide)
            · exact hg
        refine r_aload_n (p := 59) rfl rfl rfl ?_
        refine r_getR (p := 62) rfl rfl rfl rfl rfl ?_
        refine r_iload_n (p := 63) rfl rfl rfl ?_
        refine r_iconst (v := 0) (p := 64) rfl rfl rfl ?_
        refine r_iast (p := 65) rfl rfl rfl (vp100 hv.1) (by decide) rfl ?_
        refine r_aload_n (p := 66) rfl rfl rfl ?_
        refine r_iload_n (p := 67) rfl rfl rfl ?_
        refine r_cV (p := 70) rfl rfl rfl (Nat.le_of_ble_eq_true rfl) rfl (s_X7_forget H2 hI.knl (fun F2 M2 R2 f2 => ?_))
        refine r_iconst (v := 1) (p := 71) rfl rfl rfl ?_
        refine r_ireturn rfl mok_1 ?_
        refine hQ _ _ 1 (by rw [e]; exact R2) (F1.tr ((frR.m (by omega)).tr f2)) (Or.inr rfl) ?_
        rw [e]
        show cnt (up1 (sG s) v 0) 2 = _
        rw [cnt_upd hv.1, if_pos hv.2, if_neg (by decide), Int32.add_zero]
      · refine r_iconst (v := 0) (p := 57) rfl rfl rfl ?_
        have hw : ¬ sC s v = 0 := fun q => c2 (by rw [H1.2.2.2.1 v hv.1 hv.2 h0]; exact q)
        have e : swp s = wSw s t := by unfold swp; rw [hs]; exact if_neg hw
        refine r_ireturn rfl mok_0 ?_
        exact hQ _ _ 0 (by rw [e]; exact H1) F1 (Or.inl rfl) (by rw [e]; exact (Int32.sub_zero _).symm)
    · exact absurd c1 (nI_ne0 (n := (v :: t).length) (by simp) (by omega))
