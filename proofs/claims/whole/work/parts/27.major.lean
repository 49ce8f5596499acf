/-! ===== the class's major collector ===== -/
theorem nI_x {j k : Nat} (h : j < 4) (hj : j < k) (hk : k ≤ 4) : ¬ nI j < 0 ∧ ¬ (4 : Int32) ≤ nI j ∧ nI j < nI k := ⟨nI_pos (by omega), nI_ge (a := j) (b := 4) h (by omega), nI_lt hj (by omega)⟩
theorem drop_c {α : Type} {l : List α} {x z : α} {t : List α} {j : Nat} (h : l.drop j = x :: t) : j < l.length ∧ l.getD j z = x ∧ l.drop (j + 1) = t := by
  have hl : j < l.length := Nat.lt_of_not_le fun q => by rw [List.drop_eq_nil_of_le q] at h; cases h
  rw [List.drop_eq_getElem_cons hl] at h
  injection h with h1 h2
  exact ⟨hl, by rw [List.getD_eq_getElem?_getD, List.getElem?_eq_getElem hl]; exact h1, h2⟩
theorem getD_mem {l : List Int32} {j : Nat} {z : Int32} (h : j < l.length) : l.getD j z ∈ l := by
  rw [List.getD_eq_getElem?_getD, List.getElem?_eq_getElem h]; exact List.getElem_mem h
set_option maxRecDepth 100000 in
theorem lp_X2_shadeFields {d : Nat} {Y : mY} {L : mL} {v : Int32} {k : Nat} {Q : Option Value → mW → Prop} (hk : k ≤ 4) :
    ∀ (n j : Nat) (s : mSt) (F : mF) (M : mM), j + n = k → RC s F M → Inv s → sPh s = 1 → sN s v = nI k → liveP s v → (∀ F' M', RC (((seqI n j).map (fun j => sR s (4 * v + j))).foldl shd s) F' M' → frC F M F' M' → Q none (mXY Y, F', M', L)) → Wp (d + 2) tX2_shadeFields 2 [some (.ref 18), some (.int v), some (.int (nI j))] [] (mXY Y, F, M, L) Q
  | 0, j, s, F, M, hj, H, hI, hp, hn, hv, hQ => by
    refine r_iload_n (p := 3) rfl rfl rfl ?_
    refine r_aload_n (p := 4) rfl rfl rfl ?_
    refine r_getR (p := 7) rfl rfl rfl rfl rfl ?_
    refine r_iload_n (p := 8) rfl rfl rfl ?_
    refine r_cV (p := 11) rfl rfl rfl (Nat.le_of_ble_eq_true rfl) rfl (s_X4_fieldsOf ?_)
    rw [H.fc hv.1, hn]
    refine r_icmp_ge (p := 14) rfl rfl (fun c1 => ?_) (fun c1 => ?_)
    · refine r_return rfl ?_
      exact hQ F M H frC.rf
    · exact absurd (nI_le (a := k) (b := j) (by omega) (by omega)) c1
  | n + 1, j, s, F, M, hj, H, hI, hp, hn, hv, hQ => by
    have hx := nI_x (j := j) (k := k) (by omega) (by omega) hk
    refine r_iload_n (p := 3) rfl rfl rfl ?_
    refine r_aload_n (p := 4) rfl rfl rfl ?_
    refine r_getR (p := 7) rfl rfl rfl rfl rfl ?_
    refine r_iload_n (p := 8) rfl rfl rfl ?_
    refine r_cV (p := 11) rfl rfl rfl (Nat.le_of_ble_eq_true rfl) rfl (s_X4_fieldsOf ?_)
    rw [H.fc hv.1, hn]
    refine r_icmp_ge (p := 14) rfl rfl (fun c1 => ?_) (fun c1 => ?_)
    · exact absurd c1 (nI_ge (a := j) (b := k) (by omega) (by omega))
    · refine r_aload_n (p := 15) rfl rfl rfl ?_
      refine r_aload_n (p := 16) rfl rfl rfl ?_
      refine r_getR (p := 19) rfl rfl rfl rfl rfl ?_
      refine r_iload_n (p := 20) rfl rfl rfl ?_
      refine r_iload_n (p := 21) rfl rfl rfl ?_
      refine r_cV (p := 24) rfl rfl rfl (Nat.le_of_ble_eq_true rfl) rfl (s_X4_fieldOf ?_)
      rw [H.fld hv hx.1 hx.2.1 (by rw [hn]; exact hx.2.2)]
      refine r_cV (p := 27) rfl rfl rfl (Nat.le_of_ble_eq_true rfl) rfl (s_X2_shade H.2.2.2.2.2.2.2.2.1.s0 ?_)
      have H1 := H.shade hI hp (sR s (4 * v + nI j))
      refine r_iinc (v := nI (j + 1)) (p := 30) rfl rfl (nI_1 j) rfl rfl ?_
      refine r_goto rfl ?_
      have e := sm_shd s (sR s (4 * v + nI j))
      refine lp_X2_shadeFields hk n (j + 1) _ _ _ (by omega) H1.1 (Inv_shd hI hp _) (by rw [e.ph, hp]) (by rw [e.2.2.1]; exact hn) (by rw [liveP, e.1]; exact hv) (fun F' M' R f => ?_)
      rw [e.2.2.2.1] at R
      exact hQ F' M' R (H1.2.tr f)
set_option maxRecDepth 100000 in
theorem s_X2_shadeFields {d : Nat} {Y : mY} {F : mF} {M : mM} {L : mL} {v : Int32} {s : mSt} {Q : Option Value → mW → Prop} (H : RC s F M) (hI : Inv s) (hp : sPh s = 1) (hv : liveP s v) (hQ : ∀ F' M', RC (shdF s v) F' M' → frC F M F' M' → Q none (mXY Y, F', M', L)) : Cw (d + 3) 134 [.ref 18, .int v] (mXY Y, F, M, L) Q := by
  obtain ⟨k, hk, hn⟩ := hI.2.2.1 v hv.1
  refine Cw_in rfl rfl ?_
  refine r_iconst (v := 0) (p := 1) rfl rfl rfl ?_
  refine r_istore_n (p := 2) rfl rfl rfl ?_
  refine lp_X2_shadeFields hk k 0 s F M (by omega) H hI hp hn hv (fun F' M' R f => hQ F' M' ?_ f)
  unfold shdF flds
  rw [hn, nI_clamp (by omega)]
  exact R
set_option maxRecDepth 100000 in
theorem lp_X2_scanRoots1 {d : Nat} {Y : mY} {L : mL} {Q : Option Value → mW → Prop} :
    ∀ (n j : Nat) (s : mSt) (F : mF) (M : mM), j + n = 4 → RC s F M → Inv s → sPh s = 1 → (∀ F' M' l2, RC (((seqI n j).map (sO s)).foldl shd s) F' M' → frC F M F' M' → Wp (d + 3) tX2_scanRoots 25 [some (.ref 18), some l2, none] [] (mXY Y, F', M', L) Q) → Wp (d + 3) tX2_scanRoots 2 [some (.ref 18), some (.int (nI j)), none] [] (mXY Y, F, M, L) Q
  | 0, j, s, F, M, hj, H, hI, hp, hQ => by
    refine r_iload_n (p := 3) rfl rfl rfl ?_
    refine r_iconst (v := 4) (p := 4) rfl rfl rfl ?_
    refine r_icmp_ge (p := 7) rfl rfl (fun c1 => ?_) (fun c1 => ?_)
    · exact hQ F M _ H frC.rf
    · exact absurd (nI_le (a := 4) (b := j) (by omega) (by omega)) c1
  | n + 1, j, s, F, M, hj, H, hI, hp, hQ => by
    refine r_iload_n (p := 3) rfl rfl rfl ?_
    refine r_iconst (v := 4) (p := 4) rfl rfl rfl ?_
    refine r_icmp_ge (p := 7) rfl rfl (fun c1 => ?_) (fun c1 => ?_)
    · exact absurd c1 (nI_ge (a := j) (b := 4) (by omega) (by omega))
    · refine r_aload_n (p := 8) rfl rfl rfl ?_
      refine r_aload_n (p := 9) rfl rfl rfl ?_
      refine r_getR (p := 12) rfl rfl rfl rfl rfl ?_
      refine r_iload_n (p := 13) rfl rfl rfl ?_
      refine r_cV (p := 16) rfl rfl rfl (Nat.le_of_ble_eq_true rfl) rfl (s_X0_rootAt ?_)
      rw [H.rt (show j < 4 by omega)]
      refine r_cV (p := 19) rfl rfl rfl (Nat.le_of_ble_eq_true rfl) rfl (s_X2_shade H.2.2.2.2.2.2.2.2.1.s0 ?_)
      have H1 := H.shade hI hp (sO s (nI j))
      refine r_iinc (v := nI (j + 1)) (p := 22) rfl rfl (nI_1 j) rfl rfl ?_
      refine r_goto rfl ?_
      have e := sm_shd s (sO s (nI j))
      refine lp_X2_scanRoots1 n (j + 1) _ _ _ (by omega) H1.1 (Inv_shd hI hp _) (by rw [e.ph, hp]) (fun F' M' l2 R f => ?_)
      rw [e.2.2.2.2.1] at R
      exact hQ F' M' l2 R (H1.2.tr f)
set_option maxRecDepth 100000 in
theorem lp_X2_scanRoots2 {d : Nat} {Y : mY} {L : mL} {Q : Option Value → mW → Prop} :
    ∀ (t : List Int32) (j : Nat) (s : mSt) (F : mF) (M : mM), (sNu s).drop j = t → j ≤ (sNu s).length → RC s F M → Inv s → sPh s = 1 → (∀ F' M', RC (t.foldl shdF s) F' M' → frC F M F' M' → Q (some (.int (nI (sQu (t.foldl shdF s)).length))) (mXY Y, F', M', L)) → Wp (d + 3) tX2_scanRoots 35 [some (.ref 18), some (.ref 9), some (.int (nI j))] [] (mXY Y, F, M, L) Q
  | [], j, s, F, M, hj, hjl, H, hI, hp, hQ => by
    have hl : (sNu s).length ≤ j := List.drop_eq_nil_iff.mp hj
    have hN := H.2.2.2.2.2.2.1
    refine r_iload_n (p := 36) rfl rfl rfl ?_
    refine r_aload_n (p := 37) rfl rfl rfl ?_
    refine r_cV (p := 40) rfl rfl rfl (Nat.le_of_ble_eq_true rfl) rfl (s_X1_size (mIL_9 Y) ?_)
    rw [f_X1_size, hN.1]
    refine r_icmp_ge (p := 43) rfl rfl (fun c1 => ?_) (fun c1 => ?_)
    · refine r_aload_n (p := 59) rfl rfl rfl ?_
      refine r_getR (p := 62) rfl rfl rfl rfl rfl ?_
      refine r_cV (p := 65) rfl rfl rfl (Nat.le_of_ble_eq_true rfl) rfl (s_X1_size (mIL_19 Y) ?_)
      rw [f_X1_size, H.2.2.2.2.2.2.2.2.1.1]
      refine r_ireturn rfl trivial ?_
      exact hQ F M H frC.rf
    · exact absurd (nI_le hl (by have := hN.len; omega)) c1
  | x :: t, j, s, F, M, hj, hjl, H, hI, hp, hQ => by
    have hN := H.2.2.2.2.2.2.1
    obtain ⟨hl, hx, ht⟩ := drop_c (z := 0) hj
    have hv : yngP s x := (hI.2.2.2.2.2.1.2 x).mp (by rw [← hx]; exact getD_mem hl)
    have hL := hN.len
    refine r_iload_n (p := 36) rfl rfl rfl ?_
    refine r_aload_n (p := 37) rfl rfl rfl ?_
    refine r_cV (p := 40) rfl rfl rfl (Nat.le_of_ble_eq_true rfl) rfl (s_X1_size (mIL_9 Y) ?_)
    rw [f_X1_size, hN.1]
    refine r_icmp_ge (p := 43) rfl rfl (fun c1 => ?_) (fun c1 => ?_)
    · exact absurd c1 (nI_ge hl (by omega))
    · refine r_aload_n (p := 44) rfl rfl rfl ?_
      refine r_aload_n (p := 45) rfl rfl rfl ?_
      refine r_iload_n (p := 46) rfl rfl rfl ?_
      refine r_cV (p := 49) rfl rfl rfl (Nat.le_of_ble_eq_true rfl) rfl (s_X1_at (mIL_9 Y) hN.s1 ?_)
      rw [hN.at hl, hx]
      refine r_cV (p := 52) rfl rfl rfl (Nat.le_of_ble_eq_true rfl) rfl (s_X2_shadeFields H hI hp ⟨hv.1, by rw [hv.2]; decide⟩ (fun F1 M1 R1 f1 => ?_))
      have e := Inv_shdF hI hp x
      refine r_iinc (v := nI (j + 1)) (p := 55) rfl rfl (nI_1 j) rfl rfl ?_
      refine r_goto rfl ?_
      refine lp_X2_scanRoots2 t (j + 1) _ _ _ (by rw [e.2.2.2.2.2.2.1]; exact ht) (by rw [e.2.2.2.2.2.2.1]; exact hl) R1 e.1 (by rw [e.2.ph, hp]) (fun F' M' R f => hQ F' M' R (f1.tr f))
set_option maxRecDepth 100000 in
theorem s_X2_scanRoots {d : Nat} {Y : mY} {F : mF} {M : mM} {L : mL} {s : mSt} {Q : Option Value → mW → Prop} (H : RC s F M) (hI : Inv s) (hp : sPh s = 1) (hQ : ∀ F' M', RC (scan s) F' M' → frC F M F' M' → Q (some (.int (nI (sQu (scan s)).length))) (mXY Y, F', M', L)) : Cw (d + 4) 133 [.ref 18] (mXY Y, F, M, L) Q := by
  refine Cw_in rfl rfl ?_
  refine r_iconst (v := 0) (p := 1) rfl rfl rfl ?_
  refine r_istore_n (p := 2) rfl rfl rfl ?_
  refine lp_X2_scanRoots1 4 0 s F M rfl H hI hp (fun F1 M1 l2 R f => ?_)
  have e : ((seqI 4 0).map (sO s)).foldl shd s = (rts s).foldl shd s := rfl
  rw [e] at R
  have z := Inv_fold (l := rts s) hI hp
  refine r_aload_n (p := 26) rfl rfl rfl ?_
  refine r_getR (p := 29) rfl rfl rfl rfl rfl ?_
  refine r_cV (p := 32) rfl rfl rfl (Nat.le_of_ble_eq_true rfl) rfl (s_X0_nursery  ?_)
  refine r_astore_n (p := 33) rfl rfl rfl ?_
  refine r_iconst (v := 0) (p := 34) rfl rfl rfl ?_
  refine r_istore_n (p := 35) rfl rfl rfl ?_
  refine lp_X2_scanRoots2 (sNu s) 0 _ F1 M1 (by rw [z.2.2.2.2.2.2.1]; rfl) (Nat.zero_le _) R z.1 (by rw [z.2.ph, hp]) (fun F' M' R2 f2 => ?_)
  exact hQ F' M' R2 (f.tr f2)
theorem RC.paint0 {s : mSt} {F : mF} {M : mM} (H : RC s F M) (hp : sPh s = 0) (v x : Int32) : RC s F (uM M 6 v x) := by
  obtain ⟨c1, c2, c3, c4, c5, c6, l1, l2, l3, l4, e⟩ := H
  exact ⟨c1, c2, c3, fun i hi hg hq => absurd hp hq, c5, c6, l1, l2, l3, l4, e⟩
theorem RC.phs {s : mSt} {F : mF} {M : mM} (H : RC s F M) {x : Int32} {c : Int32 → Int32} (hc : ¬ x = 0 → ∀ i, inR i → sG s i = 2 → M 6 i = c i) : RC (wPh (wC s c) x) (uF F 18 4 x) M := by
  obtain ⟨c1, c2, c3, c4, c5, c6, l1, l2, l3, l4, e1, e2, e3, e4⟩ := H
  exact ⟨c1, c2, c3, fun i hi hg hq => hc hq i hi hg, c5, c6, l1, l2, l3, l4, e1, e2, ⟨rfl, e3.2⟩, e4⟩
theorem RC.mas {s : mSt} {F : mF} {M : mM} (H : RC s F M) {x : Int32} : RC (wMa s x) (uF F 18 5 x) M := by
  obtain ⟨c1, c2, c3, c4, c5, c6, l1, l2, l3, l4, e1, e2, e3, e4⟩ := H
  exact ⟨c1, c2, c3, c4, c5, c6, l1, l2, l3, l4, e1, e2, ⟨e3.1, rfl⟩, e4⟩
theorem RC.free {s : mSt} {F : mF} {M : mM} (H : RC s F M) {v : Int32} (hv : inR v) (hg : sG s v = 1 ∨ sG s v = 2) : RC (wG s (up1 (sG s) v 0)) (gF_X4_free F M v) (gM_X4_free F M v) ∧ frC F M (gF_X4_free F M v) (gM_X4_free F M v) := by
  unfold gF_X4_free gM_X4_free
  rw [H.yng, H.old, H.sz hv]
  obtain ⟨c1, c2, c3, c4, c5, c6, l1, l2, l3, l4, e1, ⟨e4, e5, e6, e7⟩, e3⟩ := H
  have g1 : ∀ i, inR i → (uM M 3 v 0) 3 i = up1 (sG s) v 0 i := fun i hi => by
    rw [uM_at]
    show _ = if i = v then 0 else sG s i
    rw [c1 i hi]
  have g4 : ∀ i, inR i → up1 (sG s) v 0 i = 2 → ¬ sPh s = 0 → M 6 i = sC s i := fun i hi hg hp => by
    refine c4 i hi ?_ hp
    have hg : (if i = v then 0 else sG s i) = 2 := hg
    split at hg
    · exact absurd hg (by decide)
    · exact hg
  have g5 : ∀ i j, inR i → ¬ up1 (sG s) v 0 i = 0 → ¬ j < 0 → j < sN s i → M 7 (i * 4 + j) = sR s (4 * i + j) := fun i j hi hg h0 h1 => by
    refine c5 i j hi ?_ h0 h1
    have hg : ¬ (if i = v then 0 else sG s i) = 0 := hg
    split at hg
    · exact absurd rfl hg
    · exact hg
  rcases hg with hg | hg
  · have a : yngP s v := ⟨hv, hg⟩
    simp only [if_pos a, if_neg (show ¬ (1 : Int32) = 0 by decide)]
    refine ⟨⟨g1, c2, c3, g4, g5, c6, l1, l2, l3, l4, e1, ⟨e4, ?_, ?_, ?_⟩, e3⟩, fun a k ha => uF_ne (by omega), fun a k ha => uM_ne (by omega)⟩
    · show F 2 6 - (1 + sN s v) = _
      rw [wds_upd hv, if_pos hg, if_neg (by decide), e5, Int32.add_zero]
    · show F 2 7 = _
      rw [wds_upd hv, if_neg (by rw [hg]; decide), if_neg (by decide), e6, Int32.add_zero, Int32.sub_zero]
    · show F 2 8 = _
      rw [cnt_upd hv, if_neg (by rw [hg]; decide), if_neg (by decide), e7, Int32.add_zero, Int32.sub_zero]
  · have a : ¬ yngP s v := fun z => absurd (hg.symm.trans z.2) (by decide)
    have b : oldP s v := ⟨hv, hg⟩
    simp only [if_neg a, if_pos b, if_neg (show ¬ (1 : Int32) = 0 by decide), if_true]
    refine ⟨⟨g1, c2, c3, g4, g5, c6, l1, l2, l3, l4, e1, ⟨e4, ?_, ?_, ?_⟩, e3⟩, fun a k ha => by rw [uF_ne (by omega), uF_ne (by omega)], fun a k ha => uM_ne (by omega)⟩
    · show F 2 6 = _
      rw [wds_upd hv, if_neg (by rw [hg]; decide), if_neg (by decide), e5, Int32.add_zero, Int32.sub_zero]
    · show F 2 7 - (1 + sN s v) = _
      rw [wds_upd hv, if_pos hg, if_neg (by decide), e6, Int32.add_zero]
    · show F 2 8 - 1 = _
      rw [cnt_upd hv, if_pos hg, if_neg (by decide), e7, Int32.add_zero]
set_option maxRecDepth 100000 in
theorem s_X2_markUnit {d : Nat} {Y : mY} {F : mF} {M : mM} {L : mL} {s : mSt} {v : Int32} {t : List Int32} {Q : Option Value → mW → Prop} (H : RC s F M) (hI : Inv s) (hp : sPh s = 1) (hq : sQu s = v :: t) (hQ : ∀ F' M', RC (mark s v t) F' M' → frC F M F' M' → Q none (mXY Y, F', M', L)) : Cw (d + 4) 130 [.ref 18] (mXY Y, F, M, L) Q := by
  obtain ⟨i1, i2, i3, i4⟩ := Inv_tl hI hq
  have hl : IL 19 (v :: t) F M := by rw [← hq]; exact H.2.2.2.2.2.2.2.2.1
  refine Cw_in rfl rfl ?_
  refine r_aload_n (p := 1) rfl rfl rfl ?_
  refine r_getR (p := 4) rfl rfl rfl rfl rfl ?_
  refine r_cV (p := 7) rfl rfl rfl (Nat.le_of_ble_eq_true rfl) rfl (s_X1_takeFirst (mIL_19 Y) hl (fun F1 M1 R1 f1 => ?_))
  have H1 := H.l19 f1 R1
  refine r_istore_n (p := 8) rfl rfl rfl ?_
  refine r_aload_n (p := 9) rfl rfl rfl ?_
  refine r_iload_n (p := 10) rfl rfl rfl ?_
  refine r_cV (p := 13) rfl rfl rfl (Nat.le_of_ble_eq_true rfl) rfl (s_X2_shadeFields H1 i1 hp ⟨i3.1, by show ¬ sG s v = 0; rw [i3.2]; decide⟩ (fun F2 M2 R2 f2 => ?_))
  refine r_aload_n (p := 14) rfl rfl rfl ?_
  refine r_getR (p := 17) rfl rfl rfl rfl rfl ?_
  refine r_iload_n (p := 18) rfl rfl rfl ?_
  refine r_iconst (v := 2) (p := 19) rfl rfl rfl ?_
  refine r_cV (p := 22) rfl rfl rfl (Nat.le_of_ble_eq_true rfl) rfl (s_X4_paint ?_)
  rw [gM_X4_paint, if_neg i3.1.1, if_neg i3.1.2]
  refine r_return rfl ?_
  exact hQ _ _ (R2.paint v 2) ((f1.c (by omega) (by omega)).tr (f2.tr ⟨fun _ _ _ => rfl, fun a k ha => uM_ne (by omega)⟩))
set_option maxRecDepth 100000 in
theorem s_X2_sweepUnit {d : Nat} {Y : mY} {F : mF} {M : mM} {L : mL} {s : mSt} {Q : Option Value → mW → Prop} (H : RC s F M) (hI : Inv s) (hp : sPh s = 2) (hQ : ∀ F' M', RC (swp s) F' M' → frC F M F' M' → Q none (mXY Y, F', M', L)) : Cw (d + 4) 131 [.ref 18] (mXY Y, F, M, L) Q := by
  have hl := H.2.2.2.2.2.2.2.2.2.1
  have hL := hl.len
  have h0 : ¬ sPh s = 0 := by rw [hp]; decide
  refine Cw_in rfl rfl ?_
  cases hs : sSw s with
  | nil =>
    refine r_aload_n (p := 1) rfl rfl rfl ?_
    refine r_getR (p := 4) rfl rfl rfl rfl rfl ?_
    refine r_cV (p := 7) rfl rfl rfl (Nat.le_of_ble_eq_true rfl) rfl (s_X1_size (mIL_22 Y) ?_)
    rw [f_X1_size, hl.1, hs]
    refine r_if_ne (p := 10) rfl rfl (fun c1 => ?_) (fun c1 => ?_)
    · exact absurd rfl c1
    · refine r_aload_n (p := 11) rfl rfl rfl ?_
      refine r_iconst (v := 0) (p := 12) rfl rfl rfl ?_
      refine r_putI (p := 15) rfl rfl rfl rfl ?_
      refine r_aload_n (p := 16) rfl rfl rfl ?_
      refine r_dup (p := 17) rfl rfl rfl ?_
      refine r_getI (p := 20) rfl rfl rfl rfl ?_
      refine r_iconst (v := 1) (p := 21) rfl rfl rfl ?_
      refine r_iadd (p := 22) rfl rfl ?_
      refine r_putI (p := 25) rfl rfl rfl rfl ?_
      refine r_return rfl ?_
      have e : swp s = wMa (wPh s 0) (sMa s + 1) := by unfold swp; rw [hs]
      have z := (H.phs (x := 0) (c := sC s) (fun q => absurd rfl q)).mas (x := sMa s + 1)
      rw [← H.2.2.2.2.2.2.2.2.2.2.2.2.1.2] at z
      refine hQ _ _ ?_ ⟨fun a k ha => by rw [uF_ne (by omega), uF_ne (by omega)], fun _ _ _ => rfl⟩
      rw [e, ← H.2.2.2.2.2.2.2.2.2.2.2.2.1.2]
      exact z
  | cons v t =>
    have hv : oldP s v := hI.2.2.2.2.2.2.2.2.1.2.1 v (by rw [hs]; exact List.mem_cons_self)
    have hl2 : IL 22 (v :: t) F M := by rw [← hs]; exact hl
    refine r_aload_n (p := 1) rfl rfl rfl ?_
    refine r_getR (p := 4) rfl rfl rfl rfl rfl ?_
    refine r_cV (p := 7) rfl rfl rfl (Nat.le_of_ble_eq_true rfl) rfl (s_X1_size (mIL_22 Y) ?_)
    rw [f_X1_size, hl.1, hs]
    refine r_if_ne (p := 10) rfl rfl (fun c1 => ?_) (fun c1 => ?_)
    · refine r_aload_n (p := 27) rfl rfl rfl ?_
      refine r_getR (p := 30) rfl rfl rfl rfl rfl ?_
      refine r_cV (p := 33) rfl rfl rfl (Nat.le_of_ble_eq_true rfl) rfl (s_X1_takeFirst (mIL_22 Y) hl2 (fun F1 M1 R1 f1 => ?_))
      have H1 := H.l22 f1 R1
      refine r_istore_n (p := 34) rfl rfl rfl ?_
      refine r_aload_n (p := 35) rfl rfl rfl ?_
      refine r_getR (p := 38) rfl rfl rfl rfl rfl ?_
      refine r_iload_n (p := 39) rfl rfl rfl ?_
      refine r_cV (p := 42) rfl rfl rfl (Nat.le_of_ble_eq_true rfl) rfl (s_X4_isWhiteOld ?_)
      rw [H1.wht h0]
      refine r_if_eq (p := 45) rfl rfl (fun c2 => ?_) (fun c2 => ?_)
      · refine r_return rfl ?_
        have hw : ¬ sC s v = 0 := fun q => absurd c2 (by rw [if_pos ⟨hv.1, hv.2, q⟩]; decide)
        have e : swp s = wSw s t := by unfold swp; rw [hs]; exact if_neg hw
        exact hQ _ _ (by rw [e]; exact H1) (f1.c (by omega) (by omega))
      · refine r_aload_n (p := 46) rfl rfl rfl ?_
        refine r_getR (p := 49) rfl rfl rfl rfl rfl ?_
        refine r_iload_n (p := 50) rfl rfl rfl ?_
        refine r_cV (p := 53) rfl rfl rfl (Nat.le_of_ble_eq_true rfl) rfl (s_X4_free ?_)
        have H2 := H1.free hv.1 (Or.inr hv.2)
        refine r_aload_n (p := 54) rfl rfl rfl ?_
        refine r_getR (p := 57) rfl rfl rfl rfl rfl ?_
        refine r_cV (p := 60) rfl rfl rfl (Nat.le_of_ble_eq_true rfl) rfl (s_X0_rememberedSet  ?_)
        refine r_iload_n (p := 61) rfl rfl rfl ?_
        refine r_cV (p := 64) rfl rfl rfl (Nat.le_of_ble_eq_true rfl) rfl (s_X1_drop (mIL_12 Y) H2.1.2.2.2.2.2.2.2.1 (fun F3 M3 R3 f3 => ?_))
        have H3 := H2.1.l12 f3 R3
        refine r_return rfl ?_
        have hw : sC s v = 0 := Classical.byContradiction fun q => c2 (if_neg fun z => q z.2.2)
        have e : swp s = wKn (wG (wSw s t) (up1 (sG s) v 0)) (flt v (sKn s)) := by unfold swp; rw [hs]; exact if_pos hw
        exact hQ _ _ (by rw [e]; exact H3) ((f1.c (by omega) (by omega)).tr (H2.2.tr (f3.c (by omega) (by omega))))
    · exact absurd (by simpa using c1) (nI_ne0 (n := (v :: t).length) (by simp) (by rw [← hs]; omega))
