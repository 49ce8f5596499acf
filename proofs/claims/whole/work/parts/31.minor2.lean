/-! ===== the class's minor collector, second part ===== -/
theorem RC.c0 {s : mSt} {F : mF} {M : mM} (H : RC s F M) (hp : sPh s = 0) (c : Int32 → Int32) : RC (wC s c) F M := by
  obtain ⟨c1, c2, c3, c4, c5⟩ := H
  exact ⟨c1, c2, c3, fun i hi hg hq => absurd hp hq, c5⟩
theorem RC.cc {s : mSt} {F : mF} {M : mM} {c c' : Int32 → Int32} (H : RC (wC s c) F M) (h : ∀ i, c i = c' i) : RC (wC s c') F M := by
  have e : c = c' := funext h
  rw [← e]; exact H
theorem RC.grow {s : mSt} {F : mF} {M : mM} (H : RC s F M) {v : Int32} (hv : inR v) : RC (wA s (up1 (sA s) v (sA s v + 1))) F (gM_X4_growOlder F M v) ∧ frC F M F (gM_X4_growOlder F M v) ∧ ∀ l, IL 26 l F M → IL 26 l F (gM_X4_growOlder F M v) := by
  unfold gM_X4_growOlder
  rw [if_neg hv.1, if_neg hv.2, H.2.1 v hv]
  obtain ⟨c1, c2, c3⟩ := H
  refine ⟨⟨c1, fun i hi => ?_, c3⟩, ⟨fun _ _ _ => rfl, fun a k ha => uM_ne (by omega)⟩, fun l h => h⟩
  · rw [uM_at]
    show _ = if i = v then _ else _
    rw [c2 i hi]
theorem RC.promote {s : mSt} {F : mF} {M : mM} (H : RC s F M) {v : Int32} (hv : yngP s v) : RC (wC (wG s (up1 (sG s) v 2)) (up1 (sC s) v (M 6 v))) (gF_X4_promote F M v) (gM_X4_promote F M v) ∧ frC F M (gF_X4_promote F M v) (gM_X4_promote F M v) ∧ ∀ l, IL 26 l F M → IL 26 l (gF_X4_promote F M v) (gM_X4_promote F M v) := by
  unfold gF_X4_promote gM_X4_promote
  rw [H.yng]
  have hz : ∀ F' : mF, f_X4_sizeOf F' (uM M 3 v 2) v = 1 + sN s v := fun F' => by
    unfold f_X4_sizeOf
    rw [if_neg hv.1.1, if_neg hv.1.2]
    show 1 + M 5 v = _
    rw [H.2.2.1 v hv.1]
  simp only [if_pos hv, if_neg (show ¬ (1 : Int32) = 0 by decide), hz]
  obtain ⟨c1, c2, c3, c4, c5, c6, l1, l2, l3, l4, e1, ⟨e4, e5, e6, e7⟩, e3⟩ := H
  refine ⟨⟨fun i hi => ?_, c2, c3, fun i hi hg hp => ?_, fun i j hi hg h0 h1 => ?_, c6, l1, l2, l3, l4, e1, ⟨e4, ?_, ?_, ?_⟩, e3⟩, ⟨fun a k ha => by rw [uF_ne (by omega), uF_ne (by omega), uF_ne (by omega)], fun a k ha => uM_ne (by omega)⟩, fun l h => h⟩
  · rw [uM_at]
    show _ = if i = v then 2 else sG s i
    rw [c1 i hi]
  · show M 6 i = if i = v then M 6 v else sC s i
    have hg : (if i = v then 2 else sG s i) = 2 := hg
    split
    · rename_i e; rw [e]
    · rename_i e
      rw [if_neg e] at hg
      exact c4 i hi hg hp
  · have hg : ¬ (if i = v then 2 else sG s i) = 0 := hg
    refine c5 i j hi ?_ h0 h1
    split at hg
    · rename_i e; rw [e, hv.2]; decide
    · exact hg
  · show F 2 6 - (1 + sN s v) = _
    rw [wds_upd hv.1, if_pos hv.2, if_neg (by decide), e5, Int32.add_zero]
  · show F 2 7 + (1 + sN s v) = _
    rw [wds_upd hv.1, if_neg (by rw [hv.2]; decide), if_pos rfl, e6, Int32.sub_zero]
  · show F 2 8 + 1 = _
    rw [cnt_upd hv.1, if_neg (by rw [hv.2]; decide), if_pos rfl, e7, Int32.sub_zero]
theorem RC.noteP {s : mSt} {F : mF} {M : mM} {x v : Int32} (H : RC (wC (wG s (up1 (sG s) v 2)) (up1 (sC s) v x)) F M) (hv : inR v) (hq : v ∉ sQu s) (hp : sPh s = 0 ∨ sPh s = 1 ∨ sPh s = 2) : RC (prm s v) (gF_X2_notePromotion F M v) (gM_X2_notePromotion F M v) ∧ frC F M (gF_X2_notePromotion F M v) (gM_X2_notePromotion F M v) ∧ ∀ l, IL 26 l F M → IL 26 l (gF_X2_notePromotion F M v) (gM_X2_notePromotion F M v) := by
  unfold gF_X2_notePromotion gM_X2_notePromotion prm gM_X4_paint
  have hph : F 18 4 = sPh s := H.2.2.2.2.2.2.2.2.2.2.2.2.1.1
  have hc : ∀ y i, up1 (up1 (sC s) v x) v y i = up1 (sC s) v y i := fun y i => by
    show (if i = v then y else if i = v then x else sC s i) = if i = v then y else sC s i
    split
    · rfl
    · rfl
  simp only [hph, if_neg hv.1, if_neg hv.2]
  by_cases h1 : sPh s = 1
  · simp only [if_pos h1]
    have a := (H.paint v 1).cc (s := wG s (up1 (sG s) v 2)) (hc 1)
    have b := (a.2.2.2.2.2.2.2.2.1).add v
    rw [addL_no hv hq] at b
    refine ⟨a.l19 b.2 b.1, frC.tr (F1 := F) (M1 := uM M 6 v 1) ⟨fun _ _ _ => rfl, fun a i ha => uM_ne (by omega)⟩ (b.2.c (by omega) (by omega)), fun l h => ?_⟩
    exact IL.ext (F := F) (M := uM M 6 v 1) h (b.2.1 _ _ (by omega)) (fun i => b.2.2 _ _ (by omega) (by omega)) (fun i => b.2.2 _ _ (by omega) (by omega))
  · simp only [if_neg h1]
    by_cases h2 : sPh s = 2
    · simp only [if_pos h2]
      exact ⟨(H.paint v 2).cc (s := wG s (up1 (sG s) v 2)) (hc 2), ⟨fun _ _ _ => rfl, fun a i ha => uM_ne (by omega)⟩, fun l h => h⟩
    · simp only [if_neg h2]
      have h0 : sPh s = 0 := hp.elim id (fun z => z.elim (fun q => absurd q h1) (fun q => absurd q h2))
      exact ⟨H.c0 (s := wC (wG s (up1 (sG s) v 2)) (up1 (sC s) v x)) h0 (sC s), frC.rf, fun l h => h⟩
set_option maxRecDepth 100000 in
theorem s_X3_promoteIfRoom {d : Nat} {Y : mY} {F : mF} {M : mM} {L : mL} {v : Int32} {s : mSt} {l : List Int32} {Q : Option Value → mW → Prop} (H : RC s F M) (hI : InvW s) (hv : yngP s v) (hl : IL 26 l F M) (hQ : ∀ F' M', RC (tnr s v) F' M' → IL 26 l F' M' → frC F M F' M' → Q none (mXY Y, F', M', L)) : Cw (d + 3) 145 [.ref 25, .int v] (mXY Y, F, M, L) Q := by
  have hq : v ∉ sQu s := fun z => absurd (hv.2.symm.trans (hI.2.2.2.2.2.2.2.1.2.1 v z).1.2) (by decide)
  have hrm : f_X0_hasOldRoomFor F M v = if sOc s - wds (sG s) (sN s) 2 < 1 + sN s v then 0 else 1 := by
    unfold f_X0_hasOldRoomFor f_X4_wordsOld
    rw [H.sz hv.1, H.2.2.2.2.2.2.2.2.2.2.1.2.1, H.2.2.2.2.2.2.2.2.2.2.2.1.2.2.1]
  refine Cw_in rfl rfl ?_
  refine r_aload_n (p := 1) rfl rfl rfl ?_
  refine r_getR (p := 4) rfl rfl rfl rfl rfl ?_
  refine r_iload_n (p := 5) rfl rfl rfl ?_
  refine r_cV (p := 8) rfl rfl rfl (Nat.le_of_ble_eq_true rfl) rfl (s_X0_hasOldRoomFor ?_)
  rw [hrm]
  refine r_if_eq (p := 11) rfl rfl (fun c1 => ?_) (fun c1 => ?_)
  · refine r_aload_n (p := 31) rfl rfl rfl ?_
    refine r_dup (p := 32) rfl rfl rfl ?_
    refine r_getI (p := 35) rfl rfl rfl rfl ?_
    refine r_iconst (v := 1) (p := 36) rfl rfl rfl ?_
    refine r_iadd (p := 37) rfl rfl ?_
    refine r_putI (p := 40) rfl rfl rfl rfl ?_
    have hr : sOc s - wds (sG s) (sN s) 2 < 1 + sN s v := Classical.byContradiction fun q => absurd c1 (by rw [if_neg q]; decide)
    have e : tnr s v = wFa s (sFa s + 1) := if_pos hr
    rw [e] at hQ
    refine r_return rfl ?_
    refine hQ _ _ ?_ hl ⟨fun a k ha => uF_ne (by omega), fun _ _ _ => rfl⟩
    obtain ⟨c1, c2, c3, c4, c5, c6, l1, l2, l3, l4, e1, e2, e3, e4⟩ := H
    exact ⟨c1, c2, c3, c4, c5, c6, l1, l2, l3, l4, e1, e2, e3, by show F 25 4 + 1 = sFa s + 1; rw [e4.1], e4.2⟩
  · refine r_aload_n (p := 12) rfl rfl rfl ?_
    refine r_getR (p := 15) rfl rfl rfl rfl rfl ?_
    refine r_iload_n (p := 16) rfl rfl rfl ?_
    refine r_cV (p := 19) rfl rfl rfl (Nat.le_of_ble_eq_true rfl) rfl (s_X4_promote ?_)
    have H1 := H.promote hv
    refine r_aload_n (p := 20) rfl rfl rfl ?_
    refine r_getR (p := 23) rfl rfl rfl rfl rfl ?_
    refine r_iload_n (p := 24) rfl rfl rfl ?_
    refine r_cV (p := 27) rfl rfl rfl (Nat.le_of_ble_eq_true rfl) rfl (s_X2_notePromotion H1.1.2.2.2.2.2.2.2.2.1.s0 ?_)
    have H2 := H1.1.noteP hv.1 hq hI.2.2.2.2.2.2.2.2.2
    refine r_goto rfl ?_
    have hr : ¬ sOc s - wds (sG s) (sN s) 2 < 1 + sN s v := fun q => c1 (if_pos q)
    have e : tnr s v = prm s v := if_neg hr
    rw [e] at hQ
    refine r_return rfl ?_
    exact hQ _ _ H2.1 (H2.2.2 l (H1.2.2 l hl)) (H1.2.1.tr H2.2.1)
set_option maxRecDepth 100000 in
theorem lp_X3_ageSurvivors {d : Nat} {Y : mY} {L : mL} {l : List Int32} {Q : Option Value → mW → Prop} :
    ∀ (t : List Int32) (j : Nat) (s : mSt) (F : mF) (M : mM) (z : Option Value), l.drop j = t → j ≤ l.length → RC s F M → InvW s → IL 26 l F M → t.Nodup → (∀ x ∈ t, yngP s x) → (∀ F' M', RC (t.foldl agS s) F' M' → IL 26 l F' M' → frC F M F' M' → Q none (mXY Y, F', M', L)) → Wp (d + 3) tX3_ageSurvivors 2 [some (.ref 25), some (.int (nI j)), z] [] (mXY Y, F, M, L) Q
  | [], j, s, F, M, z, hj, hjl, H, hI, hl, hn, hy, hQ => by
    have hd : l.length ≤ j := List.drop_eq_nil_iff.mp hj
    have hL := hl.len
    refine r_iload_n (p := 3) rfl rfl rfl ?_
    refine r_aload_n (p := 4) rfl rfl rfl ?_
    refine r_getR (p := 7) rfl rfl rfl rfl rfl ?_
    refine r_cV (p := 10) rfl rfl rfl (Nat.le_of_ble_eq_true rfl) rfl (s_X1_size (mIL_26 Y) ?_)
    rw [f_X1_size, hl.1]
    refine r_icmp_ge (p := 13) rfl rfl (fun c1 => ?_) (fun c1 => ?_)
    · refine r_return rfl ?_
      exact hQ F M H hl frC.rf
    · exact absurd (nI_le hd (by omega)) c1
  | x :: t, j, s, F, M, z, hj, hjl, H, hI, hl, hn, hy, hQ => by
    have hL := hl.len
    obtain ⟨hd, hx, ht⟩ := drop_c (z := 0) hj
    have hv := hy x List.mem_cons_self
    have hn2 := List.nodup_cons.mp hn
    have hy2 : ∀ y ∈ t, yngP (agS s x) y := fun y hy3 => ⟨(hy y (List.mem_cons_of_mem _ hy3)).1, by rw [g_agS_ne (show ¬ y = x from fun e => hn2.1 (e ▸ hy3))]; exact (hy y (List.mem_cons_of_mem _ hy3)).2⟩
    have H1 := H.grow hv.1
    have hl1 := H1.2.2 l hl
    have hten : f_X0_isTenured F (gM_X4_growOlder F M x) x = if sA s x + 1 < sTe s then 0 else 1 := by
      unfold f_X0_isTenured
      rw [H1.1.ag hv.1, H1.1.2.2.2.2.2.2.2.2.2.2.1.2.2]
      show (if (if x = x then sA s x + 1 else sA s x) < sTe s then 0 else 1) = _
      rw [if_pos rfl]
    refine r_iload_n (p := 3) rfl rfl rfl ?_
    refine r_aload_n (p := 4) rfl rfl rfl ?_
    refine r_getR (p := 7) rfl rfl rfl rfl rfl ?_
    refine r_cV (p := 10) rfl rfl rfl (Nat.le_of_ble_eq_true rfl) rfl (s_X1_size (mIL_26 Y) ?_)
    rw [f_X1_size, hl.1]
    refine r_icmp_ge (p := 13) rfl rfl (fun c1 => ?_) (fun c1 => ?_)
    · exact absurd c1 (nI_ge hd (by omega))
    · refine r_aload_n (p := 14) rfl rfl rfl ?_
      refine r_getR (p := 17) rfl rfl rfl rfl rfl ?_
      refine r_iload_n (p := 18) rfl rfl rfl ?_
      refine r_cV (p := 21) rfl rfl rfl (Nat.le_of_ble_eq_true rfl) rfl (s_X1_at (mIL_26 Y) hl.s1 ?_)
      rw [hl.at hd, hx]
      refine r_istore_n (p := 22) rfl rfl rfl ?_
      refine r_aload_n (p := 23) rfl rfl rfl ?_
      refine r_getR (p := 26) rfl rfl rfl rfl rfl ?_
      refine r_iload_n (p := 27) rfl rfl rfl ?_
      refine r_cV (p := 30) rfl rfl rfl (Nat.le_of_ble_eq_true rfl) rfl (s_X4_growOlder ?_)
      refine r_aload_n (p := 31) rfl rfl rfl ?_
      refine r_getR (p := 34) rfl rfl rfl rfl rfl ?_
      refine r_iload_n (p := 35) rfl rfl rfl ?_
      refine r_cV (p := 38) rfl rfl rfl (Nat.le_of_ble_eq_true rfl) rfl (s_X0_isTenured ?_)
      rw [hten]
      refine r_if_eq (p := 41) rfl rfl (fun c2 => ?_) (fun c2 => ?_)
      · refine r_iinc (v := nI (j + 1)) (p := 49) rfl rfl (nI_1 j) rfl rfl ?_
        refine r_goto rfl ?_
        have hr : sA s x + 1 < sTe s := Classical.byContradiction fun q => absurd c2 (by rw [if_neg q]; decide)
        have e : agS s x = wA s (up1 (sA s) x (sA s x + 1)) := if_pos hr
        exact lp_X3_ageSurvivors t (j + 1) (agS s x) _ _ _ ht hd (by rw [e]; exact H1.1) (InvW_agS hI hv) hl1 hn2.2 hy2 (fun F' M' R I f => hQ F' M' R I (H1.2.1.tr f))
      · refine r_aload_n (p := 42) rfl rfl rfl ?_
        refine r_iload_n (p := 43) rfl rfl rfl ?_
        refine r_cV (p := 46) rfl rfl rfl (Nat.le_of_ble_eq_true rfl) rfl (s_X3_promoteIfRoom (s := wA s (up1 (sA s) x (sA s x + 1))) H1.1 hI hv hl1 (fun F2 M2 R2 I2 f2 => ?_))
        have hr : ¬ sA s x + 1 < sTe s := fun q => c2 (if_pos q)
        have e : agS s x = tnr (wA s (up1 (sA s) x (sA s x + 1))) x := if_neg hr
        refine r_iinc (v := nI (j + 1)) (p := 49) rfl rfl (nI_1 j) rfl rfl ?_
        refine r_goto rfl ?_
        exact lp_X3_ageSurvivors t (j + 1) (agS s x) _ _ _ ht hd (by rw [e]; exact R2) (InvW_agS hI hv) I2 hn2.2 hy2 (fun F' M' R I f => hQ F' M' R I (H1.2.1.tr (f2.tr f)))
set_option maxRecDepth 100000 in
theorem s_X3_ageSurvivors {d : Nat} {Y : mY} {F : mF} {M : mM} {L : mL} {s : mSt} {l : List Int32} {Q : Option Value → mW → Prop} (H : RC s F M) (hI : InvW s) (hl : IL 26 l F M) (hy : ∀ x ∈ l, yngP s x) (hQ : ∀ F' M', RC (l.foldl agS s) F' M' → IL 26 l F' M' → frC F M F' M' → Q none (mXY Y, F', M', L)) : Cw (d + 4) 144 [.ref 25] (mXY Y, F, M, L) Q := by
  refine Cw_in rfl rfl ?_
  refine r_iconst (v := 0) (p := 1) rfl rfl rfl ?_
  refine r_istore_n (p := 2) rfl rfl rfl ?_
  exact lp_X3_ageSurvivors l 0 s F M _ rfl (Nat.zero_le _) H hI hl hl.2.1 hy hQ
set_option maxRecDepth 100000 in
theorem lp_X3_freeOthers {d : Nat} {Y : mY} {L : mL} {l : List Int32} {Q : Option Value → mW → Prop} :
    ∀ (t : List Int32) (j : Nat) (s : mSt) (F : mF) (M : mM) (m : Int32) (z : Option Value), (sNu s).drop j = t → j ≤ (sNu s).length → RC s F M → IL 26 l F M → t.Nodup → (∀ x ∈ t, x ∉ l → yngP s x) → (∀ F' M', RC (t.foldl (frO l) (s, m)).1 F' M' → IL 26 l F' M' → frC F M F' M' → Q (some (.int (t.foldl (frO l) (s, m)).2)) (mXY Y, F', M', L)) → Wp (d + 2) tX3_freeOthers 12 [some (.ref 25), some (.ref 9), some (.int m), some (.int (nI j)), z] [] (mXY Y, F, M, L) Q
  | [], j, s, F, M, m, z, hj, hjl, H, hl, hn, hy, hQ => by
    have hd : (sNu s).length ≤ j := List.drop_eq_nil_iff.mp hj
    have hN := H.2.2.2.2.2.2.1
    have hL := hN.len
    refine r_iload_n (p := 13) rfl rfl rfl ?_
    refine r_aload_n (p := 14) rfl rfl rfl ?_
    refine r_cV (p := 17) rfl rfl rfl (Nat.le_of_ble_eq_true rfl) rfl (s_X1_size (mIL_9 Y) ?_)
    rw [f_X1_size, hN.1]
    refine r_icmp_ge (p := 20) rfl rfl (fun c1 => ?_) (fun c1 => ?_)
    · refine r_iload_n (p := 58) rfl rfl rfl ?_
      refine r_ireturn rfl trivial ?_
      exact hQ F M H hl frC.rf
    · exact absurd (nI_le hd (by omega)) c1
  | x :: t, j, s, F, M, m, z, hj, hjl, H, hl, hn, hy, hQ => by
    have hN := H.2.2.2.2.2.2.1
    have hL := hN.len
    obtain ⟨hd, hx, ht⟩ := drop_c (z := 0) hj
    have hn2 := List.nodup_cons.mp hn
    refine r_iload_n (p := 13) rfl rfl rfl ?_
    refine r_aload_n (p := 14) rfl rfl rfl ?_
    refine r_cV (p := 17) rfl rfl rfl (Nat.le_of_ble_eq_true rfl) rfl (s_X1_size (mIL_9 Y) ?_)
    rw [f_X1_size, hN.1]
    refine r_icmp_ge (p := 20) rfl rfl (fun c1 => ?_) (fun c1 => ?_)
    · refine r_iload_n (p := 58) rfl rfl rfl ?_
      exact absurd c1 (nI_ge hd (by omega))
    · refine r_aload_n (p := 21) rfl rfl rfl ?_
      refine r_iload_n (p := 22) rfl rfl rfl ?_
      refine r_cV (p := 25) rfl rfl rfl (Nat.le_of_ble_eq_true rfl) rfl (s_X1_at (mIL_9 Y) hN.s1 ?_)
      rw [hN.at hd, hx]
      refine r_istore (p := 27) rfl rfl rfl ?_
      refine r_aload_n (p := 28) rfl rfl rfl ?_
      refine r_getR (p := 31) rfl rfl rfl rfl rfl ?_
      refine r_iload (p := 33) rfl rfl rfl ?_
      refine r_cV (p := 36) rfl rfl rfl (Nat.le_of_ble_eq_true rfl) rfl (s_X1_has (mIL_26 Y) ?_)
      rw [hl.has]
      refine r_if_ne (p := 39) rfl rfl (fun c2 => ?_) (fun c2 => ?_)
      · refine r_iinc (v := nI (j + 1)) (p := 54) rfl rfl (nI_1 j) rfl rfl ?_
        refine r_goto rfl ?_
        have hm : x ∈ l := Classical.byContradiction fun q => c2 (if_neg q)
        have e : frO l (s, m) x = (s, m) := if_pos hm
        rw [List.foldl_cons, e] at hQ
        exact lp_X3_freeOthers t (j + 1) s F M m _ ht hd H hl hn2.2 (fun y h1 h2 => hy y (List.mem_cons_of_mem _ h1) h2) hQ
      · refine r_aload_n (p := 40) rfl rfl rfl ?_
        refine r_getR (p := 43) rfl rfl rfl rfl rfl ?_
        refine r_iload (p := 45) rfl rfl rfl ?_
        refine r_cV (p := 48) rfl rfl rfl (Nat.le_of_ble_eq_true rfl) rfl (s_X4_free ?_)
        have hm : x ∉ l := fun q => absurd c2 (by rw [if_pos q]; decide)
        have hv := hy x List.mem_cons_self hm
        have H1 := H.free hv.1 (Or.inl hv.2)
        have e : frO l (s, m) x = (wG s (up1 (sG s) x 0), m + 1) := if_neg hm
        have hl1 : IL 26 l (gF_X4_free F M x) (gM_X4_free F M x) := by
          unfold gF_X4_free gM_X4_free
          rw [H.yng, if_pos hv, if_neg (show ¬ (1 : Int32) = 0 by decide), if_neg (show ¬ (1 : Int32) = 0 by decide)]
          exact hl
        refine r_iinc (v := (m + 1)) (p := 51) rfl rfl rfl rfl rfl ?_
        refine r_iinc (v := nI (j + 1)) (p := 54) rfl rfl (nI_1 j) rfl rfl ?_
        refine r_goto rfl ?_
        rw [List.foldl_cons, e] at hQ
        exact lp_X3_freeOthers t (j + 1) (wG s (up1 (sG s) x 0)) _ _ (m + 1) _ ht hd H1.1 (by exact hl1) hn2.2 (fun y h1 h2 => ⟨(hy y (List.mem_cons_of_mem _ h1) h2).1, by show (if y = x then 0 else sG s y) = 1; rw [if_neg (show ¬ y = x from fun e => hn2.1 (e ▸ h1))]; exact (hy y (List.mem_cons_of_mem _ h1) h2).2⟩) (fun F' M' R I f => hQ F' M' R I (H1.2.tr f))
set_option maxRecDepth 100000 in
theorem s_X3_freeOthers {d : Nat} {Y : mY} {F : mF} {M : mM} {L : mL} {s : mSt} {l : List Int32} {Q : Option Value → mW → Prop} (H : RC s F M) (hl : IL 26 l F M) (hn : (sNu s).Nodup) (hy : ∀ x ∈ sNu s, x ∉ l → yngP s x) (hQ : ∀ F' M', RC (fre s l).1 F' M' → IL 26 l F' M' → frC F M F' M' → Q (some (.int (fre s l).2)) (mXY Y, F', M', L)) : Cw (d + 3) 146 [.ref 25] (mXY Y, F, M, L) Q := by
  refine Cw_in rfl rfl ?_
  refine r_aload_n (p := 1) rfl rfl rfl ?_
  refine r_getR (p := 4) rfl rfl rfl rfl rfl ?_
  refine r_cV (p := 7) rfl rfl rfl (Nat.le_of_ble_eq_true rfl) rfl (s_X0_nursery  ?_)
  refine r_astore_n (p := 8) rfl rfl rfl ?_
  refine r_iconst (v := 0) (p := 9) rfl rfl rfl ?_
  refine r_istore_n (p := 10) rfl rfl rfl ?_
  refine r_iconst (v := 0) (p := 11) rfl rfl rfl ?_
  refine r_istore_n (p := 12) rfl rfl rfl ?_
  exact lp_X3_freeOthers (sNu s) 0 s F M 0 _ rfl (Nat.zero_le _) H hl hn hy hQ
