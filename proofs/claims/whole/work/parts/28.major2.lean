theorem addL_no {l : List Int32} {i : Int32} (hi : inR i) (h : i ∉ l) : addL l i = l ++ [i] := if_pos ⟨hi, h⟩
theorem RC.add {s : mSt} {F : mF} {M : mM} (H : RC s F M) (i : Int32) : RC (wSw s (addL (sSw s) i)) (gF_X1_add F M 22 i) (gM_X1_add F M 22 i) ∧ frC F M (gF_X1_add F M 22 i) (gM_X1_add F M 22 i) := by
  have h := H.2.2.2.2.2.2.2.2.2.1.add i
  exact ⟨H.l22 h.2 h.1, h.2.c (by omega) (by omega)⟩
set_option maxRecDepth 100000 in
theorem lp_X2_startSweeping {d : Nat} {Y : mY} {L : mL} {Q : Option Value → mW → Prop} :
    ∀ (n j : Nat) (s : mSt) (F : mF) (M : mM), j + n = 100 → (∀ x ∈ sSw s, ∃ i, i < j ∧ x = nI i) → RC s F M → (∀ F' M', RC (wSw s (sSw s ++ (seqI n j).filter (fun i => decide (sG s i = 2)))) F' M' → frC F M F' M' → Q none (mXY Y, F', M', L)) → Wp (d + 1) tX2_startSweeping 14 [some (.ref 18), some (.int (nI j))] [] (mXY Y, F, M, L) Q
  | 0, j, s, F, M, hj, hs, H, hQ => by
    refine r_iload_n (p := 15) rfl rfl rfl ?_
    refine r_bipush (v := 100) (p := 17) rfl rfl rfl ?_
    refine r_icmp_ge (p := 20) rfl rfl (fun c1 => ?_) (fun c1 => ?_)
    · refine r_return rfl ?_
      exact hQ F M (by rw [seqI, List.filter_nil, List.append_nil]; exact H) frC.rf
    · exact absurd (nI_le (a := 100) (b := j) (by omega) (by omega)) c1
  | n + 1, j, s, F, M, hj, hs, H, hQ => by
    have hi : inR (nI j) := inR_nI (by omega)
    have hN := H.2.2.2.2.2.2.2.2.2.1
    refine r_iload_n (p := 15) rfl rfl rfl ?_
    refine r_bipush (v := 100) (p := 17) rfl rfl rfl ?_
    refine r_icmp_ge (p := 20) rfl rfl (fun c1 => ?_) (fun c1 => ?_)
    · exact absurd c1 (nI_ge (a := j) (b := 100) (by omega) (by omega))
    · refine r_aload_n (p := 21) rfl rfl rfl ?_
      refine r_getR (p := 24) rfl rfl rfl rfl rfl ?_
      refine r_iload_n (p := 25) rfl rfl rfl ?_
      refine r_cV (p := 28) rfl rfl rfl (Nat.le_of_ble_eq_true rfl) rfl (s_X4_inOldGeneration ?_)
      rw [H.old]
      refine r_if_eq (p := 31) rfl rfl (fun c2 => ?_) (fun c2 => ?_)
      · refine r_iinc (v := nI (j + 1)) (p := 42) rfl rfl (nI_1 j) rfl rfl ?_
        refine r_goto rfl ?_
        have hg : ¬ sG s (nI j) = 2 := fun q => absurd c2 (by rw [if_pos ⟨hi, q⟩]; decide)
        refine lp_X2_startSweeping n (j + 1) s F M (by omega) (fun x hx => by obtain ⟨i, h1, h2⟩ := hs x hx; exact ⟨i, by omega, h2⟩) H (fun F' M' R f => ?_)
        rw [seqI, List.filter_cons_of_neg (by simpa using hg)] at hQ
        exact hQ F' M' R f
      · refine r_aload_n (p := 32) rfl rfl rfl ?_
        refine r_getR (p := 35) rfl rfl rfl rfl rfl ?_
        refine r_iload_n (p := 36) rfl rfl rfl ?_
        refine r_cV (p := 39) rfl rfl rfl (Nat.le_of_ble_eq_true rfl) rfl (s_X1_add (mIL_22 Y) hN.s0 ?_)
        have H1 := H.add (nI j)
        refine r_iinc (v := nI (j + 1)) (p := 42) rfl rfl (nI_1 j) rfl rfl ?_
        refine r_goto rfl ?_
        have hg : sG s (nI j) = 2 := Classical.byContradiction fun q => c2 (if_neg fun z => q z.2)
        have hm : nI j ∉ sSw s := fun z => by obtain ⟨i, h1, h2⟩ := hs _ z; have := nI_inj (by omega) (by omega) h2; omega
        rw [addL_no hi hm] at H1
        refine lp_X2_startSweeping n (j + 1) _ _ _ (by omega) (fun x hx => ?_) H1.1 (fun F' M' R f => ?_)
        · rcases List.mem_append.mp hx with z | z
          · obtain ⟨i, h1, h2⟩ := hs x z; exact ⟨i, by omega, h2⟩
          · exact ⟨j, by omega, List.mem_singleton.mp z⟩
        · rw [seqI, List.filter_cons_of_pos (by simpa using hg)] at hQ
          refine hQ F' M' ?_ (H1.2.tr f)
          have e : sSw s ++ nI j :: (seqI n (j + 1)).filter (fun i => decide (sG s i = 2)) = (sSw s ++ [nI j]) ++ (seqI n (j + 1)).filter (fun i => decide (sG s i = 2)) := by simp
          rw [e]
          exact R
set_option maxRecDepth 100000 in
theorem s_X2_startSweeping {d : Nat} {Y : mY} {F : mF} {M : mM} {L : mL} {s : mSt} {Q : Option Value → mW → Prop} (H : RC s F M) (hp : sPh s = 1) (hQ : ∀ F' M', RC (stSw s) F' M' → frC F M F' M' → Q none (mXY Y, F', M', L)) : Cw (d + 2) 132 [.ref 18] (mXY Y, F, M, L) Q := by
  have H0 := H.phs (x := 2) (c := sC s) (fun _ i hi hg => H.2.2.2.1 i hi hg (by rw [hp]; decide))
  refine Cw_in rfl rfl ?_
  refine r_aload_n (p := 1) rfl rfl rfl ?_
  refine r_iconst (v := 2) (p := 2) rfl rfl rfl ?_
  refine r_putI (p := 5) rfl rfl rfl rfl ?_
  refine r_aload_n (p := 6) rfl rfl rfl ?_
  refine r_getR (p := 9) rfl rfl rfl rfl rfl ?_
  refine r_cV (p := 12) rfl rfl rfl (Nat.le_of_ble_eq_true rfl) rfl (s_X1_clear (mIL_22 Y) (fun F1 M1 R1 f1 => ?_))
  have H1 := H0.l22 f1 R1
  refine r_iconst (v := 0) (p := 13) rfl rfl rfl ?_
  refine r_istore_n (p := 14) rfl rfl rfl ?_
  refine lp_X2_startSweeping 100 0 _ F1 M1 rfl (fun x hx => by cases hx) H1 (fun F' M' R f => hQ F' M' R ?_)
  exact frC.tr (F1 := uF F 18 4 2) (M1 := M) ⟨fun a k ha => uF_ne (by omega), fun _ _ _ => rfl⟩ ((f1.c (by omega) (by omega)).tr f)
set_option maxRecDepth 100000 in
theorem lp_X2_begin {d : Nat} {Y : mY} {L : mL} {s : mSt} {Q : Option Value → mW → Prop} (hp : sPh s = 0) :
    ∀ (n j : Nat) (F : mF) (M : mM), j + n = 100 → (∀ i, i < j → M 6 (nI i) = 0) → RC s F M → (∀ F' M' l1, (∀ i, inR i → M' 6 i = 0) → RC s F' M' → frC F M F' M' → Wp (d + 4) tX2_begin 33 [some (.ref 18), some l1] [] (mXY Y, F', M', L) Q) → Wp (d + 4) tX2_begin 12 [some (.ref 18), some (.int (nI j))] [] (mXY Y, F, M, L) Q
  | 0, j, F, M, hj, hs, H, hQ => by
    refine r_iload_n (p := 13) rfl rfl rfl ?_
    refine r_bipush (v := 100) (p := 15) rfl rfl rfl ?_
    refine r_icmp_ge (p := 18) rfl rfl (fun c1 => ?_) (fun c1 => ?_)
    · exact hQ F M _ (fun i hi => by obtain ⟨q, hq, rfl⟩ := inR_of hi; exact hs q (by omega)) H frC.rf
    · exact absurd (nI_le (a := 100) (b := j) (by omega) (by omega)) c1
  | n + 1, j, F, M, hj, hs, H, hQ => by
    have hi : inR (nI j) := inR_nI (by omega)
    refine r_iload_n (p := 13) rfl rfl rfl ?_
    refine r_bipush (v := 100) (p := 15) rfl rfl rfl ?_
    refine r_icmp_ge (p := 18) rfl rfl (fun c1 => ?_) (fun c1 => ?_)
    · exact absurd c1 (nI_ge (a := j) (b := 100) (by omega) (by omega))
    · refine r_aload_n (p := 19) rfl rfl rfl ?_
      refine r_getR (p := 22) rfl rfl rfl rfl rfl ?_
      refine r_iload_n (p := 23) rfl rfl rfl ?_
      refine r_iconst (v := 0) (p := 24) rfl rfl rfl ?_
      refine r_cV (p := 27) rfl rfl rfl (Nat.le_of_ble_eq_true rfl) rfl (s_X4_paint ?_)
      rw [gM_X4_paint, if_neg hi.1, if_neg hi.2]
      have H1 := H.paint0 hp (nI j) 0
      refine r_iinc (v := nI (j + 1)) (p := 30) rfl rfl (nI_1 j) rfl rfl ?_
      refine r_goto rfl ?_
      refine lp_X2_begin hp n (j + 1) _ _ (by omega) (fun i hi => ?_) H1 (fun F' M' l1 z R f => hQ F' M' l1 z R (frC.tr (F1 := F) (M1 := uM M 6 (nI j) 0) ⟨fun _ _ _ => rfl, fun a k ha => uM_ne (by omega)⟩ f))
      rw [uM_at]
      split
      · rfl
      · rename_i q; exact hs i (Nat.lt_of_le_of_ne (by omega) (fun e => q (by rw [e])))
set_option maxRecDepth 100000 in
theorem s_X2_begin {d : Nat} {Y : mY} {F : mF} {M : mM} {L : mL} {s : mSt} {Q : Option Value → mW → Prop} (H : RC s F M) (hI : Inv s) (hQ : ∀ F' M', RC (bgn s).2 F' M' → frC F M F' M' → Q (some (.int (bgn s).1)) (mXY Y, F', M', L)) : Cw (d + 5) 128 [.ref 18] (mXY Y, F, M, L) Q := by
  have hph := H.2.2.2.2.2.2.2.2.2.2.2.2.1.1
  refine Cw_in rfl rfl ?_
  refine r_aload_n (p := 1) rfl rfl rfl ?_
  refine r_getI (p := 4) rfl rfl rfl rfl ?_
  refine r_if_eq (p := 7) rfl rfl (fun c1 => ?_) (fun c1 => ?_)
  · refine r_iconst (v := 0) (p := 11) rfl rfl rfl ?_
    refine r_istore_n (p := 12) rfl rfl rfl ?_
    have hp : sPh s = 0 := hph ▸ c1
    have e : bgn s = (nI (sQu (scan (bgn0 s))).length, scan (bgn0 s)) := if_pos hp
    rw [e] at hQ
    refine lp_X2_begin hp 100 0 F M rfl (fun i hi => absurd hi (Nat.not_lt_zero _)) H (fun F1 M1 l1 z1 R1 f1 => ?_)
    refine r_aload_n (p := 34) rfl rfl rfl ?_
    refine r_getR (p := 37) rfl rfl rfl rfl rfl ?_
    refine r_cV (p := 40) rfl rfl rfl (Nat.le_of_ble_eq_true rfl) rfl (s_X1_clear (mIL_19 Y) (fun F2 M2 R2 f2 => ?_))
    have H2 := R1.l19 f2 R2
    have H3 : RC (bgn0 s) (uF F2 18 4 1) M2 := H2.phs (x := 1) (c := fun _ => 0) (fun _ i hi _ => by rw [f2.2 _ _ (by omega) (by omega)]; exact z1 i hi)
    refine r_aload_n (p := 41) rfl rfl rfl ?_
    refine r_iconst (v := 1) (p := 42) rfl rfl rfl ?_
    refine r_putI (p := 45) rfl rfl rfl rfl ?_
    refine r_aload_n (p := 46) rfl rfl rfl ?_
    refine r_cV (p := 49) rfl rfl rfl (Nat.le_of_ble_eq_true rfl) rfl (s_X2_scanRoots H3 (Inv_bgn0 hI hp) rfl (fun F4 M4 R4 f4 => ?_))
    refine r_ireturn rfl trivial ?_
    exact hQ _ _ R4 (f1.tr ((f2.c (by omega) (by omega)).tr (frC.tr (F1 := uF F2 18 4 1) (M1 := M2) ⟨fun a k ha => uF_ne (by omega), fun _ _ _ => rfl⟩ f4)))
  · refine r_bipush (v := (-3)) (p := 9) rfl rfl rfl ?_
    have e : bgn s = (-3, s) := if_neg (fun q => c1 (hph.trans q))
    rw [e] at hQ
    refine r_ireturn rfl trivial ?_
    exact hQ _ _ H frC.rf
theorem ne_cons {l : List Int32} (h : ¬ nI l.length ≤ 0) : ∃ v t, l = v :: t := by
  cases l with
  | nil => exact absurd (by decide) h
  | cons v t => exact ⟨v, t, rfl⟩
theorem le_nil {l : List Int32} (hl : l.length < 2 ^ 31) (h : nI l.length ≤ 0) : l = [] := by
  cases l with
  | nil => rfl
  | cons v t => exact absurd h (nI_nle (by simp) hl)
def f_X6_outside (F : mF) (M : mM) (x : Int32) (a : Int32) (b : Int32) : Int32 := (if x < a then 1 else (if x ≤ b then 0 else 1))
set_option maxRecDepth 100000 in
theorem s_X6_outside {d : Nat} {X : mX} {F : mF} {M : mM} {L : mL} {x : Int32} {a : Int32} {b : Int32} {Q : Option Value → mW → Prop} (hQ : Q (some (.int (f_X6_outside F M x a b))) (X, F, M, L)) : Cw (d + 1) 204 [.int x, .int a, .int b] (X, F, M, L) Q := by
  refine Cw_in rfl rfl ?_
  refine r_iload_n (p := 1) rfl rfl rfl ?_
  refine r_iload_n (p := 2) rfl rfl rfl ?_
  refine r_icmp_lt (p := 5) rfl rfl (fun c1 => ?_) (fun c1 => ?_)
  · refine r_iconst (v := 1) (p := 11) rfl rfl rfl ?_
    refine r_goto rfl ?_
    refine r_ireturn rfl mok_1 ?_
    simp only [f_X6_outside, if_pos c1] at hQ; exact hQ
  · refine r_iload_n (p := 6) rfl rfl rfl ?_
    refine r_iload_n (p := 7) rfl rfl rfl ?_
    refine r_icmp_le (p := 10) rfl rfl (fun c2 => ?_) (fun c2 => ?_)
    · refine r_iconst (v := 0) (p := 15) rfl rfl rfl ?_
      refine r_ireturn rfl mok_0 ?_
      simp only [f_X6_outside, if_neg c1, if_pos c2] at hQ; exact hQ
    · refine r_iconst (v := 1) (p := 11) rfl rfl rfl ?_
      refine r_goto rfl ?_
      refine r_ireturn rfl mok_1 ?_
      simp only [f_X6_outside, if_neg c1, if_neg c2] at hQ; exact hQ
set_option maxRecDepth 100000 in
theorem lp_X2_advance {d : Nat} {Y : mY} {L : mL} {b : Int32} {s0 : mSt} {k : Nat} {Q : Option Value → mW → Prop} (hb : b = nI k) (hk : k < 1000) :
    ∀ (n j : Nat) (s : mSt) (F : mF) (M : mM), j + n = k → RC s F M → Inv s → (∀ F' M', RC (stps n s) F' M' → frC F M F' M' → Q (some (.int (cnt (sG s0) 2 - cnt (sG (stps n s)) 2))) (mXY Y, F', M', L)) → Wp (d + 4) tX2_advance 34 [some (.ref 18), some (.int b), some (.int (cnt (sG s0) 2)), some (.int (nI j))] [] (mXY Y, F, M, L) Q
  | 0, j, s, F, M, hj, H, hI, hQ => by
    refine r_iload_n (p := 35) rfl rfl rfl ?_
    refine r_iload_n (p := 36) rfl rfl rfl ?_
    refine r_icmp_ge (p := 39) rfl rfl (fun c1 => ?_) (fun c1 => ?_)
    · refine r_iload_n (p := 96) rfl rfl rfl ?_
      refine r_aload_n (p := 97) rfl rfl rfl ?_
      refine r_getR (p := 100) rfl rfl rfl rfl rfl ?_
      refine r_cV (p := 103) rfl rfl rfl (Nat.le_of_ble_eq_true rfl) rfl (s_X4_oldObjects ?_)
      rw [f_X4_oldObjects, H.2.2.2.2.2.2.2.2.2.2.2.1.2.2.2]
      refine r_isub (p := 104) rfl rfl ?_
      refine r_ireturn rfl trivial ?_
      exact hQ F M H frC.rf
    · exact absurd (by rw [hb]; exact nI_le (a := k) (b := j) (by omega) (by omega)) c1
  | n + 1, j, s, F, M, hj, H, hI, hQ => by
    have hph := H.2.2.2.2.2.2.2.2.2.2.2.2.1.1
    have hN := H.2.2.2.2.2.2.2.2.1
    have hL := hN.len
    refine r_iload_n (p := 35) rfl rfl rfl ?_
    refine r_iload_n (p := 36) rfl rfl rfl ?_
    refine r_icmp_ge (p := 39) rfl rfl (fun c1 => ?_) (fun c1 => ?_)
    · refine r_iload_n (p := 96) rfl rfl rfl ?_
      refine r_aload_n (p := 97) rfl rfl rfl ?_
      refine r_getR (p := 100) rfl rfl rfl rfl rfl ?_
      refine r_cV (p := 103) rfl rfl rfl (Nat.le_of_ble_eq_true rfl) rfl (s_X4_oldObjects ?_)
      rw [f_X4_oldObjects, H.2.2.2.2.2.2.2.2.2.2.2.1.2.2.2]
      refine r_isub (p := 104) rfl rfl ?_
      exact absurd c1 (by rw [hb]; exact nI_ge (a := j) (b := k) (by omega) (by omega))
    · refine r_aload_n (p := 40) rfl rfl rfl ?_
      refine r_getI (p := 43) rfl rfl rfl rfl ?_
      refine r_if_eq (p := 46) rfl rfl (fun c2 => ?_) (fun c2 => ?_)
      · refine r_iload_n (p := 96) rfl rfl rfl ?_
        refine r_aload_n (p := 97) rfl rfl rfl ?_
        refine r_getR (p := 100) rfl rfl rfl rfl rfl ?_
        refine r_cV (p := 103) rfl rfl rfl (Nat.le_of_ble_eq_true rfl) rfl (s_X4_oldObjects ?_)
        rw [f_X4_oldObjects, H.2.2.2.2.2.2.2.2.2.2.2.1.2.2.2]
        refine r_isub (p := 104) rfl rfl ?_
        refine r_ireturn rfl trivial ?_
        have es : stps (n + 1) s = s := by rw [stps]; exact if_pos (hph ▸ c2)
        rw [es] at hQ
        exact hQ F M H frC.rf
      · refine r_aload_n (p := 47) rfl rfl rfl ?_
        refine r_getI (p := 50) rfl rfl rfl rfl ?_
        refine r_iconst (v := 2) (p := 51) rfl rfl rfl ?_
        refine r_icmp_ne (p := 54) rfl rfl (fun c3 => ?_) (fun c3 => ?_)
        · have h0 : ¬ sPh s = 0 := fun q => c2 (hph.trans q)
          have p2 : ¬ sPh s = 2 := fun q => c3 (hph.trans q)
          have p1 := ph_1 hI h0 p2
          refine r_aload_n (p := 62) rfl rfl rfl ?_
          refine r_getR (p := 65) rfl rfl rfl rfl rfl ?_
          refine r_cV (p := 68) rfl rfl rfl (Nat.le_of_ble_eq_true rfl) rfl (s_X1_size (mIL_19 Y) ?_)
          rw [f_X1_size, hN.1]
          refine r_if_le (p := 71) rfl rfl (fun c4 => ?_) (fun c4 => ?_)
          · have hq : sQu s = [] := le_nil (by omega) c4
            refine r_aload_n (p := 79) rfl rfl rfl ?_
            refine r_cV (p := 82) rfl rfl rfl (Nat.le_of_ble_eq_true rfl) rfl (s_X2_scanRoots H hI p1 (fun F3 M3 R3 f3 => ?_))
            refine r_if_ne (p := 85) rfl rfl (fun c5 => ?_) (fun c5 => ?_)
            · refine r_iinc (v := nI (j + 1)) (p := 92) rfl rfl (nI_1 j) rfl rfl ?_
              refine r_goto rfl ?_
              have e : unt s = scan s := by unfold unt; rw [if_neg p2, hq]; exact if_neg (fun q => c5 (by rw [q]; rfl))
              have es : stps (n + 1) s = stps n (unt s) := by rw [stps]; exact if_neg h0
              rw [es] at hQ
              rw [← e] at R3
              exact lp_X2_advance hb hk n (j + 1) _ _ _ (by omega) R3 (Inv_unt hI h0) (fun F' M' R f => hQ F' M' R (f3.tr f))
            · have hq3 : sQu (scan s) = [] := le_nil (by have := R3.2.2.2.2.2.2.2.2.1.len; omega) (by rw [c5]; decide)
              refine r_aload_n (p := 86) rfl rfl rfl ?_
              refine r_cV (p := 89) rfl rfl rfl (Nat.le_of_ble_eq_true rfl) rfl (s_X2_startSweeping R3 (by rw [(Inv_scan hI p1).2.ph]; exact p1) (fun F4 M4 R4 f4 => ?_))
              refine r_iinc (v := nI (j + 1)) (p := 92) rfl rfl (nI_1 j) rfl rfl ?_
              refine r_goto rfl ?_
              have e : unt s = stSw (scan s) := by unfold unt; rw [if_neg p2, hq]; exact if_pos hq3
              have es : stps (n + 1) s = stps n (unt s) := by rw [stps]; exact if_neg h0
              rw [es] at hQ
              rw [← e] at R4
              exact lp_X2_advance hb hk n (j + 1) _ _ _ (by omega) R4 (Inv_unt hI h0) (fun F' M' R f => hQ F' M' R ((f3.tr f4).tr f))
          · obtain ⟨v, t, hq⟩ := ne_cons c4
            refine r_aload_n (p := 72) rfl rfl rfl ?_
            refine r_cV (p := 75) rfl rfl rfl (Nat.le_of_ble_eq_true rfl) rfl (s_X2_markUnit H hI p1 hq (fun F2 M2 R2 f2 => ?_))
            refine r_goto rfl ?_
            refine r_iinc (v := nI (j + 1)) (p := 92) rfl rfl (nI_1 j) rfl rfl ?_
            refine r_goto rfl ?_
            have e : unt s = mark s v t := by unfold unt; rw [if_neg p2, hq]
            have es : stps (n + 1) s = stps n (unt s) := by rw [stps]; exact if_neg h0
            rw [es] at hQ
            rw [← e] at R2
            exact lp_X2_advance hb hk n (j + 1) _ _ _ (by omega) R2 (Inv_unt hI h0) (fun F' M' R f => hQ F' M' R (f2.tr f))
        · have h0 : ¬ sPh s = 0 := fun q => c2 (hph.trans q)
          have p2 : sPh s = 2 := hph ▸ c3
          refine r_aload_n (p := 55) rfl rfl rfl ?_
          refine r_cV (p := 58) rfl rfl rfl (Nat.le_of_ble_eq_true rfl) rfl (s_X2_sweepUnit H hI p2 (fun F1 M1 R1 f1 => ?_))
          refine r_goto rfl ?_
          refine r_iinc (v := nI (j + 1)) (p := 92) rfl rfl (nI_1 j) rfl rfl ?_
          refine r_goto rfl ?_
          have e : unt s = swp s := if_pos p2
          have es : stps (n + 1) s = stps n (unt s) := by rw [stps]; exact if_neg h0
          rw [es] at hQ
          rw [← e] at R1
          exact lp_X2_advance hb hk n (j + 1) _ _ _ (by omega) R1 (Inv_unt hI h0) (fun F' M' R f => hQ F' M' R (f1.tr f))
theorem out_eq {F : mF} {M : mM} {x a b : Int32} : f_X6_outside F M x a b = if x < a ∨ b < x then 1 else 0 := by
  unfold f_X6_outside
  by_cases h1 : x < a
  · rw [if_pos h1, if_pos (Or.inl h1)]
  · rw [if_neg h1]
    by_cases h2 : b < x
    · rw [if_neg (Int32.not_le.mpr h2), if_pos (Or.inr h2)]
    · rw [if_pos (Int32.not_lt.mp h2), if_neg (fun z => z.elim h1 h2)]
set_option maxRecDepth 100000 in
theorem s_X2_advance {d : Nat} {Y : mY} {F : mF} {M : mM} {L : mL} {s : mSt} {b : Int32} {Q : Option Value → mW → Prop} (H : RC s F M) (hI : Inv s) (hQ : ∀ F' M', RC (adv s b).2 F' M' → frC F M F' M' → Q (some (.int (adv s b).1)) (mXY Y, F', M', L)) : Cw (d + 5) 129 [.ref 18, .int b] (mXY Y, F, M, L) Q := by
  have hph := H.2.2.2.2.2.2.2.2.2.2.2.2.1.1
  refine Cw_in rfl rfl ?_
  refine r_iload_n (p := 1) rfl rfl rfl ?_
  refine r_iconst (v := 1) (p := 2) rfl rfl rfl ?_
  refine r_sipush (v := 200) (p := 5) rfl rfl rfl ?_
  refine r_cS7 (p := 8) rfl rfl (Nat.le_of_ble_eq_true rfl) rfl (s_X6_outside ?_)
  rw [out_eq]
  refine r_if_eq (p := 11) rfl rfl (fun c1 => ?_) (fun c1 => ?_)
  · have ho : ¬ (b < 1 ∨ 200 < b) := fun q => absurd c1 (by rw [if_pos q]; decide)
    refine r_aload_n (p := 15) rfl rfl rfl ?_
    refine r_getI (p := 18) rfl rfl rfl rfl ?_
    refine r_if_ne (p := 21) rfl rfl (fun c2 => ?_) (fun c2 => ?_)
    · have h0 : ¬ sPh s = 0 := fun q => c2 (hph.trans q)
      obtain ⟨k, hk, hb⟩ := nI_of2 (M := 200) (n := 200) rfl (fun q => ho (Or.inl (Int32.lt_trans q (by decide)))) (Int32.not_lt.mp fun q => ho (Or.inr q))
      have e : adv s b = (cnt (sG s) 2 - cnt (sG (stps k s)) 2, stps k s) := by unfold adv; rw [if_neg ho, if_neg h0, hb, nI_clamp (by omega)]
      rw [e] at hQ
      refine r_aload_n (p := 25) rfl rfl rfl ?_
      refine r_getR (p := 28) rfl rfl rfl rfl rfl ?_
      refine r_cV (p := 31) rfl rfl rfl (Nat.le_of_ble_eq_true rfl) rfl (s_X4_oldObjects ?_)
      rw [f_X4_oldObjects, H.2.2.2.2.2.2.2.2.2.2.2.1.2.2.2]
      refine r_istore_n (p := 32) rfl rfl rfl ?_
      refine r_iconst (v := 0) (p := 33) rfl rfl rfl ?_
      refine r_istore_n (p := 34) rfl rfl rfl ?_
      exact lp_X2_advance hb (by omega) k 0 s F M (by omega) H hI hQ
    · refine r_bipush (v := (-3)) (p := 23) rfl rfl rfl ?_
      have e : adv s b = (-3, s) := by unfold adv; rw [if_neg ho, if_pos (hph ▸ c2)]
      rw [e] at hQ
      refine r_ireturn rfl trivial ?_
      exact hQ F M H frC.rf
  · refine r_bipush (v := (-2)) (p := 13) rfl rfl rfl ?_
    have ho : b < 1 ∨ 200 < b := Classical.byContradiction fun q => c1 (if_neg q)
    have e : adv s b = (-2, s) := if_pos ho
    rw [e] at hQ
    refine r_ireturn rfl trivial ?_
    exact hQ F M H frC.rf
