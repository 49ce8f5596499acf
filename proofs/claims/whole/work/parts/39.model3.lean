set_option maxRecDepth 100000 in
theorem lp_X7_startMajor {d : Nat} {Y : mY} {L : mL} {F : mF} {M0 : mM} {m : Nat} {Q : Option Value → mW → Prop} (hm : m ≤ 100) (hF : F 34 3 = nI m) (hQ : ∀ M' l1, (∀ a i, a ≠ 39 → M' a i = M0 a i) → (∀ i, i < m → M' 39 (nI i) = 0) → Wp (d + 4) tX7_startMajor 47 [some (.ref 34), some l1] [] (mXY Y, F, M', L) Q) :
    ∀ (n j : Nat) (M : mM), j + n = m → (∀ a i, a ≠ 39 → M a i = M0 a i) → (∀ i, i < j → M 39 (nI i) = 0) → Wp (d + 4) tX7_startMajor 26 [some (.ref 34), some (.int (nI j))] [] (mXY Y, F, M, L) Q
  | 0, j, M, hj, i1, i2 => by
    refine r_iload_n (p := 27) rfl rfl rfl ?_
    refine r_aload_n (p := 28) rfl rfl rfl ?_
    refine r_getI (p := 31) rfl rfl rfl rfl ?_
    rw [hF]
    refine r_icmp_ge (p := 34) rfl rfl (fun c1 => ?_) (fun c1 => ?_)
    · exact hQ M _ i1 (fun i hi => i2 i (by omega))
    · exact absurd (nI_le (a := m) (b := j) (by omega) (by omega)) c1
  | n + 1, j, M, hj, i1, i2 => by
    refine r_iload_n (p := 27) rfl rfl rfl ?_
    refine r_aload_n (p := 28) rfl rfl rfl ?_
    refine r_getI (p := 31) rfl rfl rfl rfl ?_
    rw [hF]
    refine r_icmp_ge (p := 34) rfl rfl (fun c1 => ?_) (fun c1 => ?_)
    · exact absurd c1 (nI_ge (a := j) (b := m) (by omega) (by omega))
    · refine r_aload_n (p := 35) rfl rfl rfl ?_
      refine r_getR (p := 38) rfl rfl rfl rfl rfl ?_
      refine r_iload_n (p := 39) rfl rfl rfl ?_
      refine r_iconst (v := 0) (p := 40) rfl rfl rfl ?_
      refine r_iast (p := 41) rfl rfl rfl (vp_in_nI (show j < 100 by omega) (by omega)) (by decide) rfl ?_
      refine r_iinc (v := nI (j + 1)) (p := 44) rfl rfl (nI_1 j) rfl rfl ?_
      refine r_goto rfl ?_
      refine lp_X7_startMajor hm hF hQ n (j + 1) _ (by omega) (fun a i ha => by rw [uM_ne ha]; exact i1 a i ha) (fun i hi => ?_)
      rw [uM_at]
      split
      · rfl
      · rename_i q; exact i2 i (Nat.lt_of_le_of_ne (by omega) (fun e => q (by rw [e])))
set_option maxRecDepth 100000 in
theorem s_X7_startMajor {d : Nat} {Y : mY} {F : mF} {M : mM} {L : mL} {s : mSt} {Q : Option Value → mW → Prop} (H : RR s F M) (hI : Inv s) (hQ : ∀ F' M', RR (bgn s).2 F' M' → frR F M F' M' → Q (some (.int (bgn s).1)) (mXY Y, F', eM F M' (bgn s).1, L)) : Cw (d + 5) 27 [.ref 34] (mXY Y, F, M, L) Q := by
  have hph := H.2.2.2.2.2.2.2.2.2.2.2.2.1.1
  obtain ⟨m, hm, hal, hg⟩ := hI.1
  refine Cw_in rfl rfl ?_
  refine r_aload_n (p := 1) rfl rfl rfl ?_
  refine r_getI (p := 4) rfl rfl rfl rfl ?_
  refine r_if_eq (p := 7) rfl rfl (fun c1 => ?_) (fun c1 => ?_)
  · refine r_aload_n (p := 15) rfl rfl rfl ?_
    refine r_iconst (v := 1) (p := 16) rfl rfl rfl ?_
    refine r_putI (p := 19) rfl rfl rfl rfl ?_
    refine r_aload_n (p := 20) rfl rfl rfl ?_
    refine r_iconst (v := 0) (p := 21) rfl rfl rfl ?_
    refine r_putI (p := 24) rfl rfl rfl rfl ?_
    refine r_iconst (v := 0) (p := 25) rfl rfl rfl ?_
    refine r_istore_n (p := 26) rfl rfl rfl ?_
    have hp : sPh s = 0 := hph ▸ c1
    have e : bgn s = (nI (sQu (scan (bgn0 s))).length, scan (bgn0 s)) := if_pos hp
    rw [e] at hQ
    have I0 := Inv_bgn0 hI hp
    have I1 := Inv_scan I0 rfl
    refine lp_X7_startMajor hm (by show F 34 3 = _; rw [H.alw]; exact hal) (fun M1 l1 i1 i2 => ?_) m 0 M (by omega) (fun _ _ _ => rfl) (fun i hi => absurd hi (Nat.not_lt_zero _))
    have H0 : RR (bgn0 s) (uF (uF F 34 18 1) 34 15 0) M1 := by
      obtain ⟨k1, k2, k3, k4, k5, k6, l1, l2, l3, l4, e1, e2, e3, e4⟩ := H
      refine ⟨fun i hi => by rw [i1 _ _ (by omega)]; exact k1 i hi, fun i hi => by rw [i1 _ _ (by omega)]; exact k2 i hi, fun i hi => by rw [i1 _ _ (by omega)]; exact k3 i hi, fun i hi hg2 _ => ?_, fun i j hi h0 h1 => by rw [i1 _ _ (by omega)]; exact k5 i j hi h0 h1, fun q hq => by rw [i1 _ _ (by omega)]; exact k6 q hq, ⟨l1.1, fun q hq => by rw [i1 _ _ (by omega)]; exact l1.2 q hq⟩, ⟨l2.1, fun q hq => by rw [i1 _ _ (by omega)]; exact l2.2 q hq⟩, LL.nil, ⟨l4.1, fun q hq => by rw [i1 _ _ (by omega)]; exact l4.2 q hq⟩, e1, e2, ⟨rfl, e3.2⟩, e4⟩
      obtain ⟨b, hb, rfl⟩ := inR_of hi
      exact i2 b (Nat.lt_of_not_le fun q => absurd ((hg b q hb).symm.trans hg2) (by decide))
    refine r_aload_n (p := 48) rfl rfl rfl ?_
    refine r_cV (p := 51) rfl rfl rfl (Nat.le_of_ble_eq_true rfl) rfl (s_X7_rootScan H0 I0 rfl (fun F2 M2 R2 f2 => ?_))
    refine r_aload_n (p := 52) rfl rfl rfl ?_
    refine r_getI (p := 55) rfl rfl rfl rfl ?_
    rw [R2.2.2.2.2.2.2.2.2.1.1]
    refine r_ireturn rfl trivial ?_
    have z := hQ _ _ R2 (frR.tr (F1 := (uF (uF F 34 18 1) 34 15 0)) (M1 := M1) ⟨fun a k ha => by rw [(frR.f (F := uF F 34 18 1) (M := M) (k := 15) (by omega)).1 a k ha, (frR.f (F := F) (M := M) (k := 18) (by omega)).1 a k ha], fun a i ha => i1 a i (by omega)⟩ f2)
    rw [eM_no (show ¬ nI (sQu (scan (bgn0 s))).length < -1 from fun q => absurd (Int32.lt_trans q (by decide)) (nI_pos (by have := I1.1.qul; omega)))] at z
    exact z
  · refine r_aload_n (p := 8) rfl rfl rfl ?_
    refine r_bipush (v := (-3)) (p := 10) rfl rfl rfl ?_
    refine r_cV (p := 13) rfl rfl rfl (Nat.le_of_ble_eq_true rfl) rfl (s_X7_fail vpf3 ?_)
    rw [f_fail]
    have e : bgn s = (-3, s) := if_neg (fun q => c1 (hph.trans q))
    rw [e] at hQ
    have z := hQ _ _ H frR.rf
    rw [eM_3] at z
    refine r_ireturn rfl trivial ?_
    exact z
set_option maxRecDepth 100000 in
theorem lp_X7_takeFirst {d : Nat} {X : mX} {F : mF} {M : mM} {L : mL} {h m : Nat} {y : Int32} {Q : Option Value → mW → Prop} (hb : Nat.blt h mB = true) (hk : X.2.2.1 h = (1, 100)) (hm : m ≤ 100) (hQ : ∀ M', (∀ a i, a ≠ h → M' a i = M a i) → (∀ p, p + 1 < m → M' h (nI p) = M h (nI (p + 1))) → Q (some (.int y)) (X, F, M', L)) :
    ∀ (n j : Nat) (M1 : mM), j + n = m → 1 ≤ j → (∀ a i, a ≠ h → M1 a i = M a i) → (∀ p, p + 1 < j → M1 h (nI p) = M h (nI (p + 1))) → (∀ p, j ≤ p → p < m → M1 h (nI p) = M h (nI p)) → Wp d tX7_takeFirst 7 [some (.ref 34), some (.ref h), some (.int (nI m)), some (.int y), some (.int (nI j))] [] (X, F, M1, L) Q
  | 0, j, M1, hj, h1, i1, i2, i3 => by
    refine r_iload (p := 9) rfl rfl rfl ?_
    refine r_iload_n (p := 10) rfl rfl rfl ?_
    refine r_icmp_ge (p := 13) rfl rfl (fun c1 => ?_) (fun c1 => ?_)
    · refine r_iload_n (p := 30) rfl rfl rfl ?_
      refine r_ireturn rfl trivial ?_
      exact hQ M1 i1 (fun p hp => i2 p (by omega))
    · exact absurd (nI_le (a := m) (b := j) (by omega) (by omega)) c1
  | n + 1, j, M1, hj, h1, i1, i2, i3 => by
    obtain ⟨q, rfl⟩ : ∃ q, j = q + 1 := ⟨j - 1, by omega⟩
    have eq1 : nI (q + 1) - 1 = nI q := nI_pred q
    refine r_iload (p := 9) rfl rfl rfl ?_
    refine r_iload_n (p := 10) rfl rfl rfl ?_
    refine r_icmp_ge (p := 13) rfl rfl (fun c1 => ?_) (fun c1 => ?_)
    · refine r_iload_n (p := 30) rfl rfl rfl ?_
      exact absurd c1 (nI_ge (a := q + 1) (b := m) (by omega) (by omega))
    · refine r_aload_n (p := 14) rfl rfl rfl ?_
      refine r_iload (p := 16) rfl rfl rfl ?_
      refine r_iconst (v := 1) (p := 17) rfl rfl rfl ?_
      refine r_isub (p := 18) rfl rfl ?_
      rw [eq1]
      refine r_aload_n (p := 19) rfl rfl rfl ?_
      refine r_iload (p := 21) rfl rfl rfl ?_
      refine r_iald (p := 22) rfl hb hk (vp_in_nI (show q + 1 < 100 by omega) (by omega)) rfl ?_
      refine r_iast (p := 23) rfl hb hk (vp_in_nI (show q < 100 by omega) (by omega)) (by decide) rfl ?_
      refine r_iinc (v := (nI (q + 1 + 1))) (p := 26) rfl rfl (nI_1 _) rfl rfl ?_
      refine r_goto rfl ?_
      refine lp_X7_takeFirst hb hk hm hQ n (q + 1 + 1) _ (by omega) (by omega) (fun a i ha => by rw [uM_ne ha]; exact i1 a i ha) (fun p hp => ?_) (fun p hp hpm => ?_)
      · rw [uM_at]
        by_cases e : p = q
        · rw [if_pos (by rw [e]), e]; exact i3 (q + 1) (Nat.le_refl _) (by omega)
        · rw [if_neg (fun z => e (nI_inj (by omega) (by omega) z))]; exact i2 p (by omega)
      · rw [uM_at, if_neg (fun z => by have := nI_inj (by omega) (by omega) z; omega)]; exact i3 p (by omega) hpm
set_option maxRecDepth 100000 in
theorem s_X7_takeFirst {d : Nat} {X : mX} {F : mF} {M : mM} {L : mL} {h : Nat} {n y : Int32} {t : List Int32} {Q : Option Value → mW → Prop} (hb : Nat.blt h mB = true) (hk : X.2.2.1 h = (1, 100)) (hl : (y :: t).length ≤ 100) (H : LL n (M h) (y :: t)) (hQ : ∀ M', (∀ a i, a ≠ h → M' a i = M a i) → LL (n - 1) (M' h) t → Q (some (.int y)) (X, F, M', L)) : Cw (d + 1) 28 [.ref 34, .ref h, .int n] (X, F, M, L) Q := by
  have hn := H.1
  have hy : M h 0 = y := H.2 0 (by simp)
  subst hn
  refine Cw_in rfl rfl ?_
  refine r_aload_n (p := 1) rfl rfl rfl ?_
  refine r_iconst (v := 0) (p := 2) rfl rfl rfl ?_
  refine r_iald (p := 3) rfl hb hk (vp_in_nI (show 0 < 100 by omega) (by omega)) rfl ?_
  rw [hy]
  refine r_istore_n (p := 4) rfl rfl rfl ?_
  refine r_iconst (v := 1) (p := 5) rfl rfl rfl ?_
  refine r_istore (p := 7) rfl rfl rfl ?_
  refine lp_X7_takeFirst hb hk hl (fun M' i1 i2 => hQ M' i1 ⟨by rw [List.length_cons, nI_pred], fun p hp => ?_⟩) ((y :: t).length - 1) 1 M (by simp; omega) (by omega) (fun _ _ _ => rfl) (fun p hp => by omega) (fun _ _ _ => rfl)
  rw [i2 p (by simpa using hp), H.2 (p + 1) (by simpa using hp)]
  rfl
set_option maxRecDepth 100000 in
theorem lp_X7_forget {d : Nat} {Y : mY} {F : mF} {M : mM} {L : mL} {x : Int32} {l : List Int32} {Q : Option Value → mW → Prop} (hlen : l.length ≤ 100) (hF : F 34 13 = nI l.length) (hQ : ∀ M', (∀ p, p < (flt x l).length → M' 42 (nI p) = (flt x l).getD p 0) → (∀ a i, a ≠ 42 → M' a i = M a i) → Q none (mXY Y, uF F 34 13 (nI (flt x l).length), M', L)) :
    ∀ (n q : Nat) (M1 : mM), q + n = l.length → (∀ p, p < (flt x (l.take q)).length → M1 42 (nI p) = (flt x (l.take q)).getD p 0) → (∀ p, q ≤ p → p < l.length → M1 42 (nI p) = l.getD p 0) → (∀ a i, a ≠ 42 → M1 a i = M a i) → Wp d tX7_forget 4 [some (.ref 34), some (.int x), some (.int (nI (flt x (l.take q)).length)), some (.int (nI q))] [] (mXY Y, F, M1, L) Q
  | 0, q, M1, hq, i1, i2, i3 => by
    refine r_iload_n (p := 5) rfl rfl rfl ?_
    refine r_aload_n (p := 6) rfl rfl rfl ?_
    refine r_getI (p := 9) rfl rfl rfl rfl ?_
    rw [hF]
    refine r_icmp_ge (p := 12) rfl rfl (fun c1 => ?_) (fun c1 => ?_)
    · refine r_aload_n (p := 44) rfl rfl rfl ?_
      refine r_iload_n (p := 45) rfl rfl rfl ?_
      refine r_putI (p := 48) rfl rfl rfl rfl ?_
      have hke : l.take q = l := List.take_of_length_le (by omega)
      rw [hke] at i1 ⊢
      refine r_return rfl ?_
      exact hQ M1 i1 i3
    · exact absurd (nI_le (a := l.length) (b := q) (by omega) (by omega)) c1
  | n + 1, q, M1, hq, i1, i2, i3 => by
    have hql : q < l.length := by omega
    have e0 := i2 q (Nat.le_refl _) hql
    have ef := flt_take (x := x) hql
    have hj := flt_len (x := x) (l := l) (k := q) (by omega)
    refine r_iload_n (p := 5) rfl rfl rfl ?_
    refine r_aload_n (p := 6) rfl rfl rfl ?_
    refine r_getI (p := 9) rfl rfl rfl rfl ?_
    rw [hF]
    refine r_icmp_ge (p := 12) rfl rfl (fun c1 => ?_) (fun c1 => ?_)
    · refine r_aload_n (p := 44) rfl rfl rfl ?_
      refine r_iload_n (p := 45) rfl rfl rfl ?_
      refine r_putI (p := 48) rfl rfl rfl rfl ?_
      exact absurd c1 (nI_ge (a := q) (b := l.length) (by omega) (by omega))
    · refine r_aload_n (p := 13) rfl rfl rfl ?_
      refine r_getR (p := 16) rfl rfl rfl rfl rfl ?_
      refine r_iload_n (p := 17) rfl rfl rfl ?_
      refine r_iald (p := 18) rfl rfl rfl (vp_in_nI (show q < 100 by omega) (by omega)) rfl ?_
      refine r_iload_n (p := 19) rfl rfl rfl ?_
      refine r_icmp_eq (p := 22) rfl rfl (fun c2 => ?_) (fun c2 => ?_)
      · refine r_iinc (v := nI (q + 1)) (p := 40) rfl rfl (nI_1 _) rfl rfl ?_
        refine r_goto rfl ?_
        rw [e0] at c2
        rw [if_pos c2] at ef
        have z := lp_X7_forget (d := d) hlen hF hQ n (q + 1) M1 (by omega) (by rw [ef]; exact i1) (fun p hp hp2 => i2 p (by omega) hp2) i3
        rw [ef] at z
        exact z
      · refine r_aload_n (p := 23) rfl rfl rfl ?_
        refine r_getR (p := 26) rfl rfl rfl rfl rfl ?_
        refine r_iload_n (p := 27) rfl rfl rfl ?_
        refine r_aload_n (p := 28) rfl rfl rfl ?_
        refine r_getR (p := 31) rfl rfl rfl rfl rfl ?_
        refine r_iload_n (p := 32) rfl rfl rfl ?_
        refine r_iald (p := 33) rfl rfl rfl (vp_in_nI (show q < 100 by omega) (by omega)) rfl ?_
        refine r_iast (p := 34) rfl rfl rfl (vp_in_nI (show (flt x (l.take q)).length < 100 by omega) (by omega)) (by decide) rfl ?_
        refine r_iinc (v := nI ((flt x (l.take q)).length + 1)) (p := 37) rfl rfl (nI_1 _) rfl rfl ?_
        refine r_iinc (v := nI (q + 1)) (p := 40) rfl rfl (nI_1 _) rfl rfl ?_
        refine r_goto rfl ?_
        rw [e0] at c2 ⊢
        rw [if_neg c2] at ef
        have z := lp_X7_forget (d := d) hlen hF hQ n (q + 1) (uM M1 42 (nI (flt x (l.take q)).length) (l.getD q 0)) (by omega) (by
          rw [ef]
          intro p hp
          simp only [List.length_append, List.length_singleton] at hp
          rw [uM_at]
          by_cases hpj : p = (flt x (l.take q)).length
          · rw [if_pos (by rw [hpj]), hpj]; simp
          · rw [if_neg (fun z => hpj (nI_inj (by omega) (by omega) z)), i1 p (by omega)]
            simp [List.getD_eq_getElem?_getD, List.getElem?_append_left (show p < (flt x (l.take q)).length by omega)]) (fun p hp hp2 => by
          rw [uM_at, if_neg (fun z => by have := nI_inj (by omega) (by omega) z; omega)]
          exact i2 p (by omega) hp2) (fun a i ha => by rw [uM_ne ha]; exact i3 a i ha)
        rw [ef, List.length_append, List.length_singleton] at z
        exact z
set_option maxRecDepth 100000 in
theorem s_X7_forget {d : Nat} {Y : mY} {F : mF} {M : mM} {L : mL} {s : mSt} {x : Int32} {Q : Option Value → mW → Prop} (H : RR s F M) (hl : (sKn s).length ≤ 100) (hQ : ∀ F' M', RR (wKn s (flt x (sKn s))) F' M' → frR F M F' M' → Q none (mXY Y, F', M', L)) : Cw (d + 1) 29 [.ref 34, .int x] (mXY Y, F, M, L) Q := by
  have hN := H.2.2.2.2.2.2.2.1
  refine Cw_in rfl rfl ?_
  refine r_iconst (v := 0) (p := 1) rfl rfl rfl ?_
  refine r_istore_n (p := 2) rfl rfl rfl ?_
  refine r_iconst (v := 0) (p := 3) rfl rfl rfl ?_
  refine r_istore_n (p := 4) rfl rfl rfl ?_
  refine lp_X7_forget (l := sKn s) hl hN.1 (fun M' i1 i2 => ?_) (sKn s).length 0 M (by omega) (fun p hp => absurd hp (Nat.not_lt_zero _)) (fun p _ hp => hN.2 p hp) (fun _ _ _ => rfl)
  obtain ⟨k1, k2, k3, k4, k5, k6, l1, l2, l3, l4, e1, e2, e3, e4⟩ := H
  refine hQ _ _ ⟨fun i hi => by rw [i2 _ _ (by omega)]; exact k1 i hi, fun i hi => by rw [i2 _ _ (by omega)]; exact k2 i hi, fun i hi => by rw [i2 _ _ (by omega)]; exact k3 i hi, fun i hi a b => by rw [i2 _ _ (by omega)]; exact k4 i hi a b, fun i j hi a b => by rw [i2 _ _ (by omega)]; exact k5 i j hi a b, fun k hk => by rw [i2 _ _ (by omega)]; exact k6 k hk, ⟨l1.1, fun q hq => by rw [i2 _ _ (by omega)]; exact l1.2 q hq⟩, ⟨rfl, i1⟩, ⟨l3.1, fun q hq => by rw [i2 _ _ (by omega)]; exact l3.2 q hq⟩, ⟨l4.1, fun q hq => by rw [i2 _ _ (by omega)]; exact l4.2 q hq⟩, e1, e2, e3, e4⟩ ⟨fun a k ha => (frR.f (F := F) (M := M) (k := 13) (by omega)).1 a k ha, fun a i ha => i2 a i (by omega)⟩
