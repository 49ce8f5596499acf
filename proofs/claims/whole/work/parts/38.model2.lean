def f_X7_fail (F : mF) (M : mM) (v : Int32) : Int32 := (if (F 34 23) = 0 then v else v)
def gM_X7_fail (F : mF) (M : mM) (v : Int32) : mM := (if (F 34 23) = 0 then (uM M 45 ((-2) - v) ((M 45 ((-2) - v)) + 1)) else M)
set_option maxRecDepth 100000 in
theorem s_X7_fail {d : Nat} {Y : mY} {F : mF} {M : mM} {L : mL} {v : Int32} {Q : Option Value → mW → Prop} (hv : vp_in (-2 - v) 3) (hQ : Q (some (.int (f_X7_fail F M v))) ((mXY Y), F, gM_X7_fail F M v, L)) : Cw (d + 1) 3 [.ref 34, .int v] ((mXY Y), F, M, L) Q := by
  refine Cw_in rfl rfl ?_
  refine r_aload_n (p := 1) rfl rfl rfl ?_
  refine r_getI3 (p := 4) rfl rfl rfl rfl ?_
  refine r_if_ne (p := 7) rfl rfl (fun c1 => ?_) (fun c1 => ?_)
  · refine r_iload_n (p := 21) rfl rfl rfl ?_
    refine r_ireturn rfl trivial ?_
    simp only [f_X7_fail, gM_X7_fail, if_neg c1] at hQ; exact hQ
  · refine r_aload_n (p := 8) rfl rfl rfl ?_
    refine r_getR (p := 11) rfl rfl rfl rfl rfl ?_
    refine r_bipush (v := (-2)) (p := 13) rfl rfl rfl ?_
    refine r_iload_n (p := 14) rfl rfl rfl ?_
    refine r_isub (p := 15) rfl rfl ?_
    refine r_dup2 (p := 16) rfl rfl rfl rfl ?_
    refine r_iald (p := 17) rfl rfl rfl hv rfl ?_
    refine r_iconst (v := 1) (p := 18) rfl rfl rfl ?_
    refine r_iadd (p := 19) rfl rfl ?_
    refine r_iast (p := 20) rfl rfl rfl hv (by decide) rfl ?_
    refine r_iload_n (p := 21) rfl rfl rfl ?_
    refine r_ireturn rfl trivial ?_
    simp only [f_X7_fail, gM_X7_fail, if_pos c1] at hQ; exact hQ
def eM (F : mF) (M : mM) (r : Int32) : mM := if r = -2 ∨ r = -3 ∨ r = -4 then gM_X7_fail F M r else M
theorem eM_no {F : mF} {M : mM} {r : Int32} (h : ¬ r < -1) : eM F M r = M := if_neg (fun z => by
  rcases z with e | e | e <;> exact absurd (by rw [e]; decide) h)
theorem f_fail {F : mF} {M : mM} {v : Int32} : f_X7_fail F M v = v := by
  unfold f_X7_fail
  split <;> rfl
theorem eM_2 {F : mF} {M : mM} : eM F M (-2) = gM_X7_fail F M (-2) := if_pos (Or.inl rfl)
theorem eM_3 {F : mF} {M : mM} : eM F M (-3) = gM_X7_fail F M (-3) := if_pos (Or.inr (Or.inl rfl))
theorem eM_4 {F : mF} {M : mM} : eM F M (-4) = gM_X7_fail F M (-4) := if_pos (Or.inr (Or.inr rfl))
theorem vpf2 : vp_in (-2 - (-2)) 3 := vpi (v := 3) (by decide) rfl (by decide) (by decide)
theorem vpf3 : vp_in (-2 - (-3)) 3 := vpi (v := 3) (by decide) rfl (by decide) (by decide)
theorem vpf4 : vp_in (-2 - (-4)) 3 := vpi (v := 3) (by decide) rfl (by decide) (by decide)
theorem RR.paint {s : mSt} {F : mF} {M : mM} (H : RR s F M) (v x : Int32) : RR (wC s (up1 (sC s) v x)) F (uM M 39 v x) := by
  obtain ⟨c1, c2, c3, c4, c5⟩ := H
  refine ⟨c1, c2, c3, fun i hi hg hp => ?_, c5⟩
  rw [uM_at]
  show _ = if i = v then x else sC s i
  rw [c4 i hi hg hp]
theorem RR.pushQ {s : mSt} {F : mF} {M : mM} (H : RR s F M) (hl : (sQu s).length < 100) (v : Int32) : RR (wQu s (sQu s ++ [v])) (uF F 34 15 (F 34 15 + 1)) (uM M 43 (F 34 15) v) := by
  obtain ⟨c1, c2, c3, c4, c5, c6, l1, l2, l3, l4, e⟩ := H
  exact ⟨c1, c2, c3, c4, c5, c6, l1, l2, l3.app (by omega) v, l4, e⟩
set_option maxRecDepth 100000 in
theorem s_X7_shade {d : Nat} {Y : mY} {F : mF} {M : mM} {L : mL} {s : mSt} {v : Int32} {Q : Option Value → mW → Prop} (H : RR s F M) (hI : Inv s) (hp : sPh s = 1) (hv : ¬ v = -1 → inR v) (hQ : ∀ F' M', RR (shd s v) F' M' → frR F M F' M' → Q none (mXY Y, F', M', L)) : Cw (d + 2) 13 [.ref 34, .int v] (mXY Y, F, M, L) Q := by
  have hp0 : ¬ sPh s = 0 := by rw [hp]; decide
  refine Cw_in rfl rfl ?_
  refine r_aload_n (p := 1) rfl rfl rfl ?_
  refine r_iload_n (p := 2) rfl rfl rfl ?_
  refine r_cV (p := 5) rfl rfl rfl (Nat.le_of_ble_eq_true rfl) rfl (s_X7_isWhite hv ?_)
  rw [H.wht hp0 hv]
  refine r_if_eq (p := 8) rfl rfl (fun c1 => ?_) (fun c1 => ?_)
  · have hw : ¬ whtP s v := fun q => absurd c1 (by rw [if_pos q]; decide)
    have e : shd s v = s := if_neg hw
    rw [e] at hQ
    refine r_return rfl ?_
    exact hQ F M H frR.rf
  · have hw : whtP s v := Classical.byContradiction fun q => c1 (if_neg q)
    have hq : v ∉ sQu s := fun z => absurd ((hI.2.2.2.2.2.2.2.1.2.1 v z).2.symm.trans hw.2.2) (by decide)
    have hl := len99 hI.2.2.2.2.2.2.2.1.1 (fun x hx => (hI.2.2.2.2.2.2.2.1.2.1 x hx).1.1) hw.1 hq
    have hL := H.2.2.2.2.2.2.2.2.1.1
    have H1 := (H.paint v 1).pushQ hl v
    refine r_aload_n (p := 9) rfl rfl rfl ?_
    refine r_iload_n (p := 10) rfl rfl rfl ?_
    refine r_cV (p := 13) rfl rfl rfl (Nat.le_of_ble_eq_true rfl) rfl (Cw_in rfl rfl ?_)
    refine r_aload_n (p := 1) rfl rfl rfl ?_
    refine r_getR (p := 4) rfl rfl rfl rfl rfl ?_
    refine r_iload_n (p := 5) rfl rfl rfl ?_
    refine r_iconst (v := 1) (p := 6) rfl rfl rfl ?_
    refine r_iast (p := 7) rfl rfl rfl (vp100 hw.1) (by decide) rfl ?_
    refine r_aload_n (p := 8) rfl rfl rfl ?_
    refine r_getR (p := 11) rfl rfl rfl rfl rfl ?_
    refine r_aload_n (p := 12) rfl rfl rfl ?_
    refine r_getI (p := 15) rfl rfl rfl rfl ?_
    refine r_iload_n (p := 16) rfl rfl rfl ?_
    refine r_iast (p := 17) rfl rfl rfl (by rw [show F 34 15 = nI (sQu s).length from hL]; exact vp_in_nI hl (by omega)) (by decide) rfl ?_
    refine r_aload_n (p := 18) rfl rfl rfl ?_
    refine r_dup (p := 19) rfl rfl rfl ?_
    refine r_getI (p := 22) rfl rfl rfl rfl ?_
    refine r_iconst (v := 1) (p := 23) rfl rfl rfl ?_
    refine r_iadd (p := 24) rfl rfl ?_
    refine r_putI (p := 27) rfl rfl rfl rfl ?_
    refine r_return rfl ?_
    refine r_return rfl ?_
    have e : shd s v = wQu (wC s (up1 (sC s) v 1)) (sQu s ++ [v]) := if_pos hw
    rw [e] at hQ
    exact hQ _ _ H1 ((frR.m (by omega)).tr ((frR.m (by omega)).tr (frR.f (by omega))))
theorem neg1 {x : Int32} (h : x = -1 ∨ inR x) : ¬ x = -1 → inR x := fun z => h.elim (fun q => absurd q z) id
set_option maxRecDepth 100000 in
theorem lp_X7_shadeFields {d : Nat} {Y : mY} {L : mL} {v : Int32} {k : Nat} {Q : Option Value → mW → Prop} (hk : k ≤ 4) (hv : inR v) :
    ∀ (n j : Nat) (s : mSt) (F : mF) (M : mM), j + n = k → RR s F M → Inv s → sPh s = 1 → sN s v = nI k → (∀ F' M', RR (((seqI n j).map (fun j => sR s (4 * v + j))).foldl shd s) F' M' → frR F M F' M' → Q none (mXY Y, F', M', L)) → Wp (d + 2) tX7_shadeFields 2 [some (.ref 34), some (.int v), some (.int (nI j))] [] (mXY Y, F, M, L) Q
  | 0, j, s, F, M, hj, H, hI, hp, hn, hQ => by
    refine r_iload_n (p := 3) rfl rfl rfl ?_
    refine r_aload_n (p := 4) rfl rfl rfl ?_
    refine r_getR (p := 7) rfl rfl rfl rfl rfl ?_
    refine r_iload_n (p := 8) rfl rfl rfl ?_
    refine r_iald (p := 9) rfl rfl rfl (vp100 hv) rfl ?_
    rw [H.2.2.1 v hv, hn]
    refine r_icmp_ge (p := 12) rfl rfl (fun c1 => ?_) (fun c1 => ?_)
    · refine r_return rfl ?_
      exact hQ F M H frR.rf
    · exact absurd (nI_le (a := k) (b := j) (by omega) (by omega)) c1
  | n + 1, j, s, F, M, hj, H, hI, hp, hn, hQ => by
    have hx := nI_x (j := j) (k := k) (by omega) (by omega) hk
    have hx4 := Int32.not_le.mp hx.2.1
    refine r_iload_n (p := 3) rfl rfl rfl ?_
    refine r_aload_n (p := 4) rfl rfl rfl ?_
    refine r_getR (p := 7) rfl rfl rfl rfl rfl ?_
    refine r_iload_n (p := 8) rfl rfl rfl ?_
    refine r_iald (p := 9) rfl rfl rfl (vp100 hv) rfl ?_
    rw [H.2.2.1 v hv, hn]
    refine r_icmp_ge (p := 12) rfl rfl (fun c1 => ?_) (fun c1 => ?_)
    · exact absurd c1 (nI_ge (a := j) (b := k) (by omega) (by omega))
    · refine r_aload_n (p := 13) rfl rfl rfl ?_
      refine r_aload_n (p := 14) rfl rfl rfl ?_
      refine r_getR (p := 17) rfl rfl rfl rfl rfl ?_
      refine r_iconst (v := 4) (p := 18) rfl rfl rfl ?_
      refine r_iload_n (p := 19) rfl rfl rfl ?_
      refine r_imul (p := 20) rfl rfl ?_
      refine r_iload_n (p := 21) rfl rfl rfl ?_
      refine r_iadd (p := 22) rfl rfl ?_
      refine r_iald (p := 23) rfl rfl rfl (vp400 hv hx.1 hx4) rfl ?_
      rw [H.2.2.2.2.1 v (nI j) hv hx.1 hx4]
      refine r_cV (p := 26) rfl rfl rfl (Nat.le_of_ble_eq_true rfl) rfl (s_X7_shade H hI hp (neg1 (hI.2.2.2.1 _)) (fun F1 M1 R1 f1 => ?_))
      refine r_iinc (v := nI (j + 1)) (p := 29) rfl rfl (nI_1 j) rfl rfl ?_
      refine r_goto rfl ?_
      have e := sm_shd s (sR s (4 * v + nI j))
      refine lp_X7_shadeFields hk hv n (j + 1) _ _ _ (by omega) R1 (Inv_shd hI hp _) (by rw [e.ph, hp]) (by rw [e.2.2.1]; exact hn) (fun F' M' R f => ?_)
      rw [e.2.2.2.1] at R
      exact hQ F' M' R (f1.tr f)
set_option maxRecDepth 100000 in
theorem s_X7_shadeFields {d : Nat} {Y : mY} {F : mF} {M : mM} {L : mL} {v : Int32} {s : mSt} {Q : Option Value → mW → Prop} (H : RR s F M) (hI : Inv s) (hp : sPh s = 1) (hv : inR v) (hQ : ∀ F' M', RR (shdF s v) F' M' → frR F M F' M' → Q none (mXY Y, F', M', L)) : Cw (d + 3) 25 [.ref 34, .int v] (mXY Y, F, M, L) Q := by
  obtain ⟨k, hk, hn⟩ := hI.2.2.1 v hv
  refine Cw_in rfl rfl ?_
  refine r_iconst (v := 0) (p := 1) rfl rfl rfl ?_
  refine r_istore_n (p := 2) rfl rfl rfl ?_
  refine lp_X7_shadeFields hk hv k 0 s F M (by omega) H hI hp hn (fun F' M' R f => hQ F' M' ?_ f)
  unfold shdF flds
  rw [hn, nI_clamp (by omega)]
  exact R
set_option maxRecDepth 100000 in
theorem lp_X7_rootScan1 {d : Nat} {Y : mY} {L : mL} {Q : Option Value → mW → Prop} :
    ∀ (n j : Nat) (s : mSt) (F : mF) (M : mM), j + n = 4 → RR s F M → Inv s → sPh s = 1 → (∀ F' M' l1, RR (((seqI n j).map (sO s)).foldl shd s) F' M' → frR F M F' M' → Wp (d + 3) tX7_rootScan 23 [some (.ref 34), some l1] [] (mXY Y, F', M', L) Q) → Wp (d + 3) tX7_rootScan 2 [some (.ref 34), some (.int (nI j))] [] (mXY Y, F, M, L) Q
  | 0, j, s, F, M, hj, H, hI, hp, hQ => by
    refine r_iload_n (p := 3) rfl rfl rfl ?_
    refine r_iconst (v := 4) (p := 4) rfl rfl rfl ?_
    refine r_icmp_ge (p := 7) rfl rfl (fun c1 => ?_) (fun c1 => ?_)
    · exact hQ F M _ H frR.rf
    · exact absurd (nI_le (a := 4) (b := j) (by omega) (by omega)) c1
  | n + 1, j, s, F, M, hj, H, hI, hp, hQ => by
    refine r_iload_n (p := 3) rfl rfl rfl ?_
    refine r_iconst (v := 4) (p := 4) rfl rfl rfl ?_
    refine r_icmp_ge (p := 7) rfl rfl (fun c1 => ?_) (fun c1 => ?_)
    · exact absurd c1 (nI_ge (a := j) (b := 4) (by omega) (by omega))
    · refine r_aload_n (p := 8) rfl rfl rfl ?_
      refine r_aload_n (p := 9) rfl rfl rfl ?_
      refine r_getR (p := 12) rfl rfl rfl rfl rfl ?_
      refine r_iload_n (p := 13) rfl rfl rfl ?_
      refine r_iald (p := 14) rfl rfl rfl (vp_in_nI (show j < 4 by omega) (by omega)) rfl ?_
      rw [H.2.2.2.2.2.1 j (by omega)]
      refine r_cV (p := 17) rfl rfl rfl (Nat.le_of_ble_eq_true rfl) rfl (s_X7_shade H hI hp (neg1 (hI.2.2.2.2.1 _)) (fun F1 M1 R1 f1 => ?_))
      refine r_iinc (v := nI (j + 1)) (p := 20) rfl rfl (nI_1 j) rfl rfl ?_
      refine r_goto rfl ?_
      have e := sm_shd s (sO s (nI j))
      refine lp_X7_rootScan1 n (j + 1) _ _ _ (by omega) R1 (Inv_shd hI hp _) (by rw [e.ph, hp]) (fun F' M' l2 R f => ?_)
      rw [e.2.2.2.2.1] at R
      exact hQ F' M' l2 R (f1.tr f)
set_option maxRecDepth 100000 in
theorem lp_X7_rootScan2 {d : Nat} {Y : mY} {L : mL} {Q : Option Value → mW → Prop} :
    ∀ (t : List Int32) (j : Nat) (s : mSt) (F : mF) (M : mM), (sNu s).drop j = t → j ≤ (sNu s).length → RR s F M → Inv s → sPh s = 1 → (∀ F' M', RR (t.foldl shdF s) F' M' → frR F M F' M' → Q none (mXY Y, F', M', L)) → Wp (d + 3) tX7_rootScan 25 [some (.ref 34), some (.int (nI j))] [] (mXY Y, F, M, L) Q
  | [], j, s, F, M, hj, hjl, H, hI, hp, hQ => by
    have hl : (sNu s).length ≤ j := List.drop_eq_nil_iff.mp hj
    have hN := H.2.2.2.2.2.2.1
    have hL := hI.nul
    refine r_iload_n (p := 26) rfl rfl rfl ?_
    refine r_aload_n (p := 27) rfl rfl rfl ?_
    refine r_getI (p := 30) rfl rfl rfl rfl ?_
    rw [hN.1]
    refine r_icmp_ge (p := 33) rfl rfl (fun c1 => ?_) (fun c1 => ?_)
    · refine r_return rfl ?_
      exact hQ F M H frR.rf
    · exact absurd (nI_le hl (by omega)) c1
  | x :: t, j, s, F, M, hj, hjl, H, hI, hp, hQ => by
    have hN := H.2.2.2.2.2.2.1
    have hL := hI.nul
    obtain ⟨hl, hx, ht⟩ := drop_c (z := 0) hj
    have hv : yngP s x := (hI.2.2.2.2.2.1.2 x).mp (by rw [← hx]; exact getD_mem hl)
    refine r_iload_n (p := 26) rfl rfl rfl ?_
    refine r_aload_n (p := 27) rfl rfl rfl ?_
    refine r_getI (p := 30) rfl rfl rfl rfl ?_
    rw [hN.1]
    refine r_icmp_ge (p := 33) rfl rfl (fun c1 => ?_) (fun c1 => ?_)
    · exact absurd c1 (nI_ge hl (by omega))
    · refine r_aload_n (p := 34) rfl rfl rfl ?_
      refine r_aload_n (p := 35) rfl rfl rfl ?_
      refine r_getR (p := 38) rfl rfl rfl rfl rfl ?_
      refine r_iload_n (p := 39) rfl rfl rfl ?_
      refine r_iald (p := 40) rfl rfl rfl (vp_in_nI (show j < 100 by omega) (by omega)) rfl ?_
      rw [hN.at hj]
      refine r_cV (p := 43) rfl rfl rfl (Nat.le_of_ble_eq_true rfl) rfl (s_X7_shadeFields H hI hp hv.1 (fun F1 M1 R1 f1 => ?_))
      have e := Inv_shdF hI hp x
      refine r_iinc (v := nI (j + 1)) (p := 46) rfl rfl (nI_1 j) rfl rfl ?_
      refine r_goto rfl ?_
      exact lp_X7_rootScan2 t (j + 1) _ _ _ (by rw [e.2.2.2.2.2.2.1]; exact ht) (by rw [e.2.2.2.2.2.2.1]; exact hl) R1 e.1 (by rw [e.2.ph, hp]) (fun F' M' R f => hQ F' M' R (f1.tr f))
set_option maxRecDepth 100000 in
theorem s_X7_rootScan {d : Nat} {Y : mY} {F : mF} {M : mM} {L : mL} {s : mSt} {Q : Option Value → mW → Prop} (H : RR s F M) (hI : Inv s) (hp : sPh s = 1) (hQ : ∀ F' M', RR (scan s) F' M' → frR F M F' M' → Q none (mXY Y, F', M', L)) : Cw (d + 4) 26 [.ref 34] (mXY Y, F, M, L) Q := by
  refine Cw_in rfl rfl ?_
  refine r_iconst (v := 0) (p := 1) rfl rfl rfl ?_
  refine r_istore_n (p := 2) rfl rfl rfl ?_
  refine lp_X7_rootScan1 4 0 s F M rfl H hI hp (fun F1 M1 l2 R f => ?_)
  have e : ((seqI 4 0).map (sO s)).foldl shd s = (rts s).foldl shd s := rfl
  rw [e] at R
  have z := Inv_fold (l := rts s) hI hp
  refine r_iconst (v := 0) (p := 24) rfl rfl rfl ?_
  refine r_istore_n (p := 25) rfl rfl rfl ?_
  exact lp_X7_rootScan2 (sNu s) 0 _ F1 M1 (by rw [z.2.2.2.2.2.2.1]; rfl) (Nat.zero_le _) R z.1 (by rw [z.2.ph, hp]) (fun F' M' R2 f2 => hQ F' M' R2 (f.tr f2))
