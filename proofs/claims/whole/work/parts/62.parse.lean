/-! ===== the class reads a script ===== -/
def wv (W : Option Nat) : Int32 := match W with
  | none => -5
  | some e => nI e
def PS (t : List Int32) (F : mF) (M : mM) (p : Nat) (W : Option Nat) (c : Nat) : Prop := LL (F 29 3) (M 32) t ∧ F 29 4 = nI p ∧ F 29 5 = wv W ∧ F 29 6 = nI c ∧ (∀ e, W = some e → e ≤ 150) ∧ t.length ≤ 150 ∧ p ≤ t.length
def fQ (F F' : mF) : Prop := ∀ a k, a ≠ 29 ∨ (k ≠ 4 ∧ k ≠ 5) → F' a k = F a k
theorem fQ.rf {F : mF} : fQ F F := fun _ _ _ => rfl
theorem fQ.tr {F F1 F2 : mF} (a : fQ F F1) (b : fQ F1 F2) : fQ F F2 := fun x k h => (b x k h).trans (a x k h)
theorem fQ.u {F : mF} {x : Int32} {k : Nat} (hk : k = 4 ∨ k = 5) : fQ F (uF F 29 k x) := fun a j h => by
  by_cases e : a = 29
  · exact uF_nk (by omega)
  · exact uF_ne e
theorem PS.mv {t : List Int32} {F : mF} {M : mM} {p c : Nat} {W : Option Nat} (H : PS t F M p W c) (h : p < t.length) : PS t (uF F 29 4 (F 29 4 + 1)) M (p + 1) W c := ⟨H.1, by show F 29 4 + 1 = _; rw [H.2.1, nI_1], H.2.2.1, H.2.2.2.1, H.2.2.2.2.1, H.2.2.2.2.2.1, h⟩
def hr (t : List Int32) (p : Nat) : Int32 := if p < t.length then t.getD p 0 else -5
theorem hr_c {t : List Int32} {p : Nat} {c : Int32} (h : ¬ c = -5) : hr t p = c ↔ chq t p c := by
  unfold hr
  split
  · exact ⟨fun q => ⟨‹_›, q⟩, fun q => q.2⟩
  · exact ⟨fun q => absurd q.symm h, fun q => absurd q.1 ‹_›⟩
theorem hr_in {t : List Int32} {p : Nat} (h : p < t.length) : hr t p = t.getD p 0 := if_pos h
set_option maxRecDepth 100000 in
theorem s_X5_here {d : Nat} {Y : mY} {F : mF} {M : mM} {L : mL} {t : List Int32} {p c : Nat} {W : Option Nat} {Q : Option Value → mW → Prop} (H : PS t F M p W c) (hQ : Q (some (.int (hr t p))) (mXY Y, F, M, L)) : Cw (d + 1) 165 [.ref 29] (mXY Y, F, M, L) Q := by
  have h1 := H.2.1
  have h2 := H.1.1
  have h3 := H.2.2.2.2.2
  refine Cw_in rfl rfl ?_
  refine r_aload_n (p := 1) rfl rfl rfl ?_
  refine r_getI (p := 4) rfl rfl rfl rfl ?_
  rw [h1]
  refine r_if_lt (p := 7) rfl rfl (fun c1 => ?_) (fun c1 => ?_)
  · refine r_bipush (v := (-5)) (p := 20) rfl rfl rfl ?_
    exact absurd c1 (nI_pos (by omega))
  · refine r_aload_n (p := 8) rfl rfl rfl ?_
    refine r_getI (p := 11) rfl rfl rfl rfl ?_
    rw [h1]
    refine r_aload_n (p := 12) rfl rfl rfl ?_
    refine r_getI (p := 15) rfl rfl rfl rfl ?_
    rw [h2]
    refine r_icmp_lt (p := 18) rfl rfl (fun c2 => ?_) (fun c2 => ?_)
    · have hlt : p < t.length := (nI_ltI (by omega) (by omega)).mp c2
      refine r_aload_n (p := 22) rfl rfl rfl ?_
      refine r_getR (p := 25) rfl rfl rfl rfl rfl ?_
      refine r_aload_n (p := 26) rfl rfl rfl ?_
      refine r_getI (p := 29) rfl rfl rfl rfl ?_
      rw [h1]
      refine r_bald (p := 30) rfl rfl rfl (vp_in_nI (show p < 150 by omega) (by omega)) rfl ?_
      rw [H.1.2 p hlt]
      have e : hr t p = t.getD p 0 := if_pos hlt
      rw [e] at hQ
      exact r_ireturn rfl trivial hQ
    · refine r_bipush (v := (-5)) (p := 20) rfl rfl rfl ?_
      have e : hr t p = -5 := if_neg (fun q => c2 ((nI_ltI (by omega) (by omega)).mpr q))
      rw [e] at hQ
      exact r_ireturn rfl trivial hQ
def f_X5_isLetter (F : mF) (M : mM) (x : Int32) : Int32 := (if x < 97 then 0 else (if 122 < x then 0 else 1))
set_option maxRecDepth 100000 in
theorem s_X5_isLetter {d : Nat} {X : mX} {F : mF} {M : mM} {L : mL} {x : Int32} {Q : Option Value → mW → Prop} (hQ : Q (some (.int (f_X5_isLetter F M x))) (X, F, M, L)) : Cw (d + 1) 166 [.int x] (X, F, M, L) Q := by
  refine Cw_in rfl rfl ?_
  refine r_iload_n (p := 1) rfl rfl rfl ?_
  refine r_bipush (v := 97) (p := 3) rfl rfl rfl ?_
  refine r_icmp_lt (p := 6) rfl rfl (fun c1 => ?_) (fun c1 => ?_)
  · refine r_iconst (v := 0) (p := 17) rfl rfl rfl ?_
    refine r_ireturn rfl mok_0 ?_
    simp only [f_X5_isLetter, if_pos c1] at hQ; exact hQ
  · refine r_iload_n (p := 7) rfl rfl rfl ?_
    refine r_bipush (v := 122) (p := 9) rfl rfl rfl ?_
    refine r_icmp_gt (p := 12) rfl rfl (fun c2 => ?_) (fun c2 => ?_)
    · refine r_iconst (v := 0) (p := 17) rfl rfl rfl ?_
      refine r_ireturn rfl mok_0 ?_
      simp only [f_X5_isLetter, if_neg c1, if_pos c2] at hQ; exact hQ
    · refine r_iconst (v := 1) (p := 13) rfl rfl rfl ?_
      refine r_goto rfl ?_
      refine r_ireturn rfl mok_1 ?_
      simp only [f_X5_isLetter, if_neg c1, if_neg c2] at hQ; exact hQ
def f_X5_isDigit (F : mF) (M : mM) (x : Int32) : Int32 := (if x < 48 then 0 else (if 57 < x then 0 else 1))
set_option maxRecDepth 100000 in
theorem s_X5_isDigit {d : Nat} {X : mX} {F : mF} {M : mM} {L : mL} {x : Int32} {Q : Option Value → mW → Prop} (hQ : Q (some (.int (f_X5_isDigit F M x))) (X, F, M, L)) : Cw (d + 1) 167 [.int x] (X, F, M, L) Q := by
  refine Cw_in rfl rfl ?_
  refine r_iload_n (p := 1) rfl rfl rfl ?_
  refine r_bipush (v := 48) (p := 3) rfl rfl rfl ?_
  refine r_icmp_lt (p := 6) rfl rfl (fun c1 => ?_) (fun c1 => ?_)
  · refine r_iconst (v := 0) (p := 17) rfl rfl rfl ?_
    refine r_ireturn rfl mok_0 ?_
    simp only [f_X5_isDigit, if_pos c1] at hQ; exact hQ
  · refine r_iload_n (p := 7) rfl rfl rfl ?_
    refine r_bipush (v := 57) (p := 9) rfl rfl rfl ?_
    refine r_icmp_gt (p := 12) rfl rfl (fun c2 => ?_) (fun c2 => ?_)
    · refine r_iconst (v := 0) (p := 17) rfl rfl rfl ?_
      refine r_ireturn rfl mok_0 ?_
      simp only [f_X5_isDigit, if_neg c1, if_pos c2] at hQ; exact hQ
    · refine r_iconst (v := 1) (p := 13) rfl rfl rfl ?_
      refine r_goto rfl ?_
      refine r_ireturn rfl mok_1 ?_
      simp only [f_X5_isDigit, if_neg c1, if_neg c2] at hQ; exact hQ
theorem rg_eq {F : mF} {M : mM} {t : List Int32} {p : Nat} : f_X5_isLetter F M (hr t p) = if rgq t p 97 122 then 1 else 0 := by
  unfold f_X5_isLetter hr
  by_cases h : p < t.length
  · rw [if_pos h]
    by_cases h1 : t.getD p 0 < 97
    · rw [if_pos h1, if_neg (fun q => q.2.1 h1)]
    · rw [if_neg h1]
      by_cases h2 : 122 < t.getD p 0
      · rw [if_pos h2, if_neg (fun q => q.2.2 h2)]
      · rw [if_neg h2, if_pos ⟨h, h1, h2⟩]
  · rw [if_neg h, if_pos (by decide), if_neg (fun q => h q.1)]
theorem rgd_eq {F : mF} {M : mM} {t : List Int32} {p : Nat} : f_X5_isDigit F M (hr t p) = if rgq t p 48 57 then 1 else 0 := by
  unfold f_X5_isDigit hr
  by_cases h : p < t.length
  · rw [if_pos h]
    by_cases h1 : t.getD p 0 < 48
    · rw [if_pos h1, if_neg (fun q => q.2.1 h1)]
    · rw [if_neg h1]
      by_cases h2 : 57 < t.getD p 0
      · rw [if_pos h2, if_neg (fun q => q.2.2 h2)]
      · rw [if_neg h2, if_pos ⟨h, h1, h2⟩]
  · rw [if_neg h, if_pos (by decide), if_neg (fun q => h q.1)]
set_option maxRecDepth 100000 in
theorem lp_X5_skip {d : Nat} {Y : mY} {M : mM} {L : mL} {t : List Int32} {c : Nat} {W : Option Nat} {Q : Option Value → mW → Prop} :
    ∀ (n p : Nat) (F : mF), t.length - p = n → PS t F M p W c → (∀ F', PS t F' M (spc t p) W c → fQ F F' → Q none (mXY Y, F', M, L)) → Wp (d + 1) tX5_skipSpaces 5 [some (.ref 29), some (.int (nI p))] [] (mXY Y, F, M, L) Q
  | 0, p, F, hn, H, hQ => by
    have h2 := H.1.1
    have h3 := H.2.2.2.2.2
    refine r_iload_n (p := 6) rfl rfl rfl ?_
    refine r_aload_n (p := 7) rfl rfl rfl ?_
    refine r_getI (p := 10) rfl rfl rfl rfl ?_
    rw [h2]
    refine r_icmp_ge (p := 13) rfl rfl (fun c1 => ?_) (fun c1 => ?_)
    · have e : spc t p = p := spc_no (fun q => by have := q.1; omega)
      rw [e] at hQ
      exact r_return rfl (hQ F H fQ.rf)
    · exact absurd (nI_le (a := t.length) (b := p) (by omega) (by omega)) c1
  | n + 1, p, F, hn, H, hQ => by
    have h2 := H.1.1
    have h3 := H.2.2.2.2.2
    refine r_iload_n (p := 6) rfl rfl rfl ?_
    refine r_aload_n (p := 7) rfl rfl rfl ?_
    refine r_getI (p := 10) rfl rfl rfl rfl ?_
    rw [h2]
    refine r_icmp_ge (p := 13) rfl rfl (fun c1 => ?_) (fun c1 => ?_)
    · exact absurd c1 (nI_ge (show p < t.length by omega) (by omega))
    · refine r_aload_n (p := 14) rfl rfl rfl ?_
      refine r_cV (p := 17) rfl rfl rfl (Nat.le_of_ble_eq_true rfl) rfl (s_X5_here H ?_)
      refine r_bipush (v := 32) (p := 19) rfl rfl rfl ?_
      refine r_icmp_ne (p := 22) rfl rfl (fun c2 => ?_) (fun c2 => ?_)
      · have e : spc t p = p := spc_no (fun q => c2 ((hr_c (by decide)).mpr q))
        rw [e] at hQ
        exact r_return rfl (hQ F H fQ.rf)
      · have hq : chq t p 32 := (hr_c (by decide)).mp c2
        have H1 := H.mv hq.1
        rw [spc_go hq] at hQ
        refine r_aload_n (p := 23) rfl rfl rfl ?_
        refine r_dup (p := 24) rfl rfl rfl ?_
        refine r_getI (p := 27) rfl rfl rfl rfl ?_
        refine r_iconst (v := 1) (p := 28) rfl rfl rfl ?_
        refine r_iadd (p := 29) rfl rfl ?_
        refine r_putI (p := 32) rfl rfl rfl rfl ?_
        refine r_iinc (v := (nI (p + 1))) (p := 35) rfl rfl (nI_1 p) rfl rfl ?_
        refine r_goto rfl ?_
        exact lp_X5_skip n (p + 1) _ (by omega) H1 (fun F' R f => hQ F' R ((fQ.u (Or.inl rfl)).tr f))
set_option maxRecDepth 100000 in
theorem s_X5_skip {d : Nat} {Y : mY} {F : mF} {M : mM} {L : mL} {t : List Int32} {p c : Nat} {W : Option Nat} {Q : Option Value → mW → Prop} (H : PS t F M p W c) (hQ : (∀ F', PS t F' M (spc t p) W c → fQ F F' → Q none (mXY Y, F', M, L))) : Cw (d + 2) 163 [.ref 29] (mXY Y, F, M, L) Q := by
  refine Cw_in rfl rfl ?_
  refine r_aload_n (p := 1) rfl rfl rfl ?_
  refine r_getI (p := 4) rfl rfl rfl rfl ?_
  rw [H.2.1]
  refine r_istore_n (p := 5) rfl rfl rfl ?_
  exact lp_X5_skip _ p F rfl H hQ
set_option maxRecDepth 100000 in
theorem s_X5_failAt {d : Nat} {Y : mY} {F : mF} {M : mM} {L : mL} {t : List Int32} {p c : Nat} {W : Option Nat} {Q : Option Value → mW → Prop} (H : PS t F M p W c) {e : Nat} (he : e ≤ 150) (hQ : (∀ F', PS t F' M p (fW W (some e)) c → fQ F F' → Q none (mXY Y, F', M, L))) : Cw (d + 1) 164 [.ref 29, .int (nI e)] (mXY Y, F, M, L) Q := by
  have h5 := H.2.2.1
  refine Cw_in rfl rfl ?_
  refine r_aload_n (p := 1) rfl rfl rfl ?_
  refine r_getI (p := 4) rfl rfl rfl rfl ?_
  refine r_bipush (v := (-5)) (p := 6) rfl rfl rfl ?_
  refine r_icmp_ne (p := 9) rfl rfl (fun c1 => ?_) (fun c1 => ?_)
  · have e1 : ∃ x, W = some x := by
      cases W
      · exact absurd h5 c1
      · exact ⟨_, rfl⟩
    obtain ⟨x, rfl⟩ := e1
    exact r_return rfl (hQ F H fQ.rf)
  · refine r_aload_n (p := 10) rfl rfl rfl ?_
    refine r_iload_n (p := 11) rfl rfl rfl ?_
    refine r_putI (p := 14) rfl rfl rfl rfl ?_
    have e1 : W = none := by
      cases hW : W with
      | none => rfl
      | some x =>
        rw [hW] at h5
        have hx := H.2.2.2.2.1 x hW
        exact absurd (show nI x = -5 from h5.symm.trans c1) (fun q => nI_pos (n := x) (by omega) (by rw [q]; decide))
    subst e1
    exact r_return rfl (hQ _ ⟨H.1, H.2.1, rfl, H.2.2.2.1, fun x hx => by cases hx; exact he, H.2.2.2.2.2⟩ (fQ.u (Or.inr rfl)))
set_option maxRecDepth 100000 in
theorem s_X5_readNumber {d : Nat} {Y : mY} {F : mF} {M : mM} {L : mL} {t : List Int32} {p c : Nat} {W : Option Nat} {Q : Option Value → mW → Prop} (H : PS t F M p W c) (hQ : (∀ F', PS t F' M (num t p).2.1 (fW W (num t p).2.2) c → fQ F F' → Q (some (.int (num t p).1)) (mXY Y, F', M, L))) : Cw (d + 2) 161 [.ref 29] (mXY Y, F, M, L) Q := by
  have h3 := H.2.2.2.2.2
  have H0 := H
  refine Cw_in rfl rfl ?_
  refine r_iconst (v := 0) (p := 1) rfl rfl rfl ?_
  refine r_istore_n (p := 2) rfl rfl rfl ?_
  refine r_iconst (v := 0) (p := 3) rfl rfl rfl ?_
  refine r_istore_n (p := 4) rfl rfl rfl ?_
  refine r_iconst (v := 0) (p := 5) rfl rfl rfl ?_
  refine r_istore_n (p := 6) rfl rfl rfl ?_
  refine r_iload_n (p := 7) rfl rfl rfl ?_
  refine r_iconst (v := 3) (p := 8) rfl rfl rfl ?_
  refine r_icmp_ge (p := 11) rfl rfl (fun c => absurd c (by decide)) (fun _ => ?_)
  refine r_aload_n (p := 12) rfl rfl rfl ?_
  refine r_cV (p := 15) rfl rfl rfl (Nat.le_of_ble_eq_true rfl) rfl (s_X5_here H0 ?_)
  refine r_cS1 (p := 18) rfl rfl (Nat.le_of_ble_eq_true rfl) rfl (s_X5_isDigit ?_)
  rw [rgd_eq]
  refine r_if_eq (p := 21) rfl rfl (fun c1 => ?_) (fun c1 => ?_)
  · refine r_iload_n (p := 54) rfl rfl rfl ?_
    refine r_if_eq (p := 57) rfl rfl (fun _ => ?_) (fun c => absurd c (by decide))
    refine r_aload_n (p := 68) rfl rfl rfl ?_
    refine r_aload_n (p := 69) rfl rfl rfl ?_
    refine r_getI (p := 72) rfl rfl rfl rfl ?_
    rw [H0.2.1]
    refine r_cV (p := 75) rfl rfl rfl (Nat.le_of_ble_eq_true rfl) rfl (s_X5_failAt (e := p) H0 (by omega) (fun F9 R9 f9 => ?_))
    refine r_iload_n (p := 76) rfl rfl rfl ?_
    have e : num t p = (0, p, some p) := if_pos (fun q => absurd c1 (by rw [if_pos q]; decide))
    rw [e] at hQ
    exact r_ireturn rfl trivial (hQ _ R9 (fQ.tr fQ.rf f9))
  · have d0 : rgq t p 48 57 := Classical.byContradiction fun q => c1 (if_neg q)
    refine r_bipush (v := 10) (p := 23) rfl rfl rfl ?_
    refine r_iload_n (p := 24) rfl rfl rfl ?_
    refine r_imul (p := 25) rfl rfl ?_
    refine r_aload_n (p := 26) rfl rfl rfl ?_
    refine r_cV (p := 29) rfl rfl rfl (Nat.le_of_ble_eq_true rfl) rfl (s_X5_here H0 ?_)
    rw [hr_in d0.1]
    refine r_iadd (p := 30) rfl rfl ?_
    refine r_bipush (v := 48) (p := 32) rfl rfl rfl ?_
    refine r_isub (p := 33) rfl rfl ?_
    refine r_istore_n (p := 34) rfl rfl rfl ?_
    refine r_iinc (v := 1) (p := 37) rfl rfl rfl rfl rfl ?_
    refine r_aload_n (p := 38) rfl rfl rfl ?_
    refine r_dup (p := 39) rfl rfl rfl ?_
    refine r_getI (p := 42) rfl rfl rfl rfl ?_
    refine r_iconst (v := 1) (p := 43) rfl rfl rfl ?_
    refine r_iadd (p := 44) rfl rfl ?_
    refine r_putI (p := 47) rfl rfl rfl rfl ?_
    have H1 := H0.mv d0.1
    refine r_iinc (v := 1) (p := 50) rfl rfl rfl rfl rfl ?_
    refine r_goto rfl ?_
    refine r_iload_n (p := 7) rfl rfl rfl ?_
    refine r_iconst (v := 3) (p := 8) rfl rfl rfl ?_
    refine r_icmp_ge (p := 11) rfl rfl (fun c => absurd c (by decide)) (fun _ => ?_)
    refine r_aload_n (p := 12) rfl rfl rfl ?_
    refine r_cV (p := 15) rfl rfl rfl (Nat.le_of_ble_eq_true rfl) rfl (s_X5_here H1 ?_)
    refine r_cS1 (p := 18) rfl rfl (Nat.le_of_ble_eq_true rfl) rfl (s_X5_isDigit ?_)
    rw [rgd_eq]
    refine r_if_eq (p := 21) rfl rfl (fun c2 => ?_) (fun c2 => ?_)
    · refine r_iload_n (p := 54) rfl rfl rfl ?_
      refine r_if_eq (p := 57) rfl rfl (fun c => absurd c (by decide)) (fun _ => ?_)
      refine r_aload_n (p := 58) rfl rfl rfl ?_
      refine r_cV (p := 61) rfl rfl rfl (Nat.le_of_ble_eq_true rfl) rfl (s_X5_here H1 ?_)
      refine r_cS1 (p := 64) rfl rfl (Nat.le_of_ble_eq_true rfl) rfl (s_X5_isDigit ?_)
      rw [rgd_eq]
      refine r_if_eq (p := 67) rfl rfl (fun c3 => ?_) (fun c3 => ?_)
      · refine r_iload_n (p := 76) rfl rfl rfl ?_
        have e : num t p = ((va 0 (tg0 t p)), (p + 1), none) := by unfold num; rw [if_neg (not_not_intro d0)]; exact if_pos (fun q => absurd c2 (by rw [if_pos q]; decide))
        rw [e] at hQ
        have eW : fW W none = W := by cases W <;> rfl
        rw [eW] at hQ
        exact r_ireturn rfl trivial (hQ _ H1 (fQ.rf.tr (fQ.u (Or.inl rfl))))
      · refine r_aload_n (p := 68) rfl rfl rfl ?_
        refine r_aload_n (p := 69) rfl rfl rfl ?_
        refine r_getI (p := 72) rfl rfl rfl rfl ?_
        rw [H1.2.1]
        refine r_cV (p := 75) rfl rfl rfl (Nat.le_of_ble_eq_true rfl) rfl (s_X5_failAt (e := (p + 1)) H1 (by omega) (fun F9 R9 f9 => ?_))
        refine r_iload_n (p := 76) rfl rfl rfl ?_
        exact absurd c2 c3
    · have d1 : rgq t (p + 1) 48 57 := Classical.byContradiction fun q => c2 (if_neg q)
      refine r_bipush (v := 10) (p := 23) rfl rfl rfl ?_
      refine r_iload_n (p := 24) rfl rfl rfl ?_
      refine r_imul (p := 25) rfl rfl ?_
      refine r_aload_n (p := 26) rfl rfl rfl ?_
      refine r_cV (p := 29) rfl rfl rfl (Nat.le_of_ble_eq_true rfl) rfl (s_X5_here H1 ?_)
      rw [hr_in d1.1]
      refine r_iadd (p := 30) rfl rfl ?_
      refine r_bipush (v := 48) (p := 32) rfl rfl rfl ?_
      refine r_isub (p := 33) rfl rfl ?_
      refine r_istore_n (p := 34) rfl rfl rfl ?_
      refine r_iinc (v := 2) (p := 37) rfl rfl rfl rfl rfl ?_
      refine r_aload_n (p := 38) rfl rfl rfl ?_
      refine r_dup (p := 39) rfl rfl rfl ?_
      refine r_getI (p := 42) rfl rfl rfl rfl ?_
      refine r_iconst (v := 1) (p := 43) rfl rfl rfl ?_
      refine r_iadd (p := 44) rfl rfl ?_
      refine r_putI (p := 47) rfl rfl rfl rfl ?_
      have H2 := H1.mv d1.1
      refine r_iinc (v := 2) (p := 50) rfl rfl rfl rfl rfl ?_
      refine r_goto rfl ?_
      refine r_iload_n (p := 7) rfl rfl rfl ?_
      refine r_iconst (v := 3) (p := 8) rfl rfl rfl ?_
      refine r_icmp_ge (p := 11) rfl rfl (fun c => absurd c (by decide)) (fun _ => ?_)
      refine r_aload_n (p := 12) rfl rfl rfl ?_
      refine r_cV (p := 15) rfl rfl rfl (Nat.le_of_ble_eq_true rfl) rfl (s_X5_here H2 ?_)
      refine r_cS1 (p := 18) rfl rfl (Nat.le_of_ble_eq_true rfl) rfl (s_X5_isDigit ?_)
      rw [rgd_eq]
      refine r_if_eq (p := 21) rfl rfl (fun c4 => ?_) (fun c4 => ?_)
      · refine r_iload_n (p := 54) rfl rfl rfl ?_
        refine r_if_eq (p := 57) rfl rfl (fun c => absurd c (by decide)) (fun _ => ?_)
        refine r_aload_n (p := 58) rfl rfl rfl ?_
        refine r_cV (p := 61) rfl rfl rfl (Nat.le_of_ble_eq_true rfl) rfl (s_X5_here H2 ?_)
        refine r_cS1 (p := 64) rfl rfl (Nat.le_of_ble_eq_true rfl) rfl (s_X5_isDigit ?_)
        rw [rgd_eq]
        refine r_if_eq (p := 67) rfl rfl (fun c5 => ?_) (fun c5 => ?_)
        · refine r_iload_n (p := 76) rfl rfl rfl ?_
          have e : num t p = ((va (va 0 (tg0 t p)) (tg0 t (p + 1))), (p + 2), none) := by unfold num; rw [if_neg (not_not_intro d0), if_neg (not_not_intro d1)]; exact if_pos (fun q => absurd c4 (by rw [if_pos q]; decide))
          rw [e] at hQ
          have eW : fW W none = W := by cases W <;> rfl
          rw [eW] at hQ
          exact r_ireturn rfl trivial (hQ _ H2 ((fQ.rf.tr (fQ.u (Or.inl rfl))).tr (fQ.u (Or.inl rfl))))
        · refine r_aload_n (p := 68) rfl rfl rfl ?_
          refine r_aload_n (p := 69) rfl rfl rfl ?_
          refine r_getI (p := 72) rfl rfl rfl rfl ?_
          rw [H2.2.1]
          refine r_cV (p := 75) rfl rfl rfl (Nat.le_of_ble_eq_true rfl) rfl (s_X5_failAt (e := (p + 2)) H2 (by omega) (fun F9 R9 f9 => ?_))
          refine r_iload_n (p := 76) rfl rfl rfl ?_
          exact absurd c4 c5
      · have d2 : rgq t (p + 2) 48 57 := Classical.byContradiction fun q => c4 (if_neg q)
        refine r_bipush (v := 10) (p := 23) rfl rfl rfl ?_
        refine r_iload_n (p := 24) rfl rfl rfl ?_
        refine r_imul (p := 25) rfl rfl ?_
        refine r_aload_n (p := 26) rfl rfl rfl ?_
        refine r_cV (p := 29) rfl rfl rfl (Nat.le_of_ble_eq_true rfl) rfl (s_X5_here H2 ?_)
        rw [hr_in d2.1]
        refine r_iadd (p := 30) rfl rfl ?_
        refine r_bipush (v := 48) (p := 32) rfl rfl rfl ?_
        refine r_isub (p := 33) rfl rfl ?_
        refine r_istore_n (p := 34) rfl rfl rfl ?_
        refine r_iinc (v := 3) (p := 37) rfl rfl rfl rfl rfl ?_
        refine r_aload_n (p := 38) rfl rfl rfl ?_
        refine r_dup (p := 39) rfl rfl rfl ?_
        refine r_getI (p := 42) rfl rfl rfl rfl ?_
        refine r_iconst (v := 1) (p := 43) rfl rfl rfl ?_
        refine r_iadd (p := 44) rfl rfl ?_
        refine r_putI (p := 47) rfl rfl rfl rfl ?_
        have H3 := H2.mv d2.1
        refine r_iinc (v := 3) (p := 50) rfl rfl rfl rfl rfl ?_
        refine r_goto rfl ?_
        refine r_iload_n (p := 7) rfl rfl rfl ?_
        refine r_iconst (v := 3) (p := 8) rfl rfl rfl ?_
        refine r_icmp_ge (p := 11) rfl rfl (fun _ => ?_) (fun c => absurd c (by decide))
        refine r_iload_n (p := 54) rfl rfl rfl ?_
        refine r_if_eq (p := 57) rfl rfl (fun c => absurd c (by decide)) (fun _ => ?_)
        refine r_aload_n (p := 58) rfl rfl rfl ?_
        refine r_cV (p := 61) rfl rfl rfl (Nat.le_of_ble_eq_true rfl) rfl (s_X5_here H3 ?_)
        refine r_cS1 (p := 64) rfl rfl (Nat.le_of_ble_eq_true rfl) rfl (s_X5_isDigit ?_)
        rw [rgd_eq]
        refine r_if_eq (p := 67) rfl rfl (fun c6 => ?_) (fun c6 => ?_)
        · refine r_iload_n (p := 76) rfl rfl rfl ?_
          have e : num t p = ((va (va (va 0 (tg0 t p)) (tg0 t (p + 1))) (tg0 t (p + 2))), (p + 3), none) := by unfold num; rw [if_neg (not_not_intro d0), if_neg (not_not_intro d1), if_neg (not_not_intro d2), if_neg (fun q => absurd c6 (by rw [if_pos q]; decide))]
          rw [e] at hQ
          have eW : fW W none = W := by cases W <;> rfl
          rw [eW] at hQ
          exact r_ireturn rfl trivial (hQ _ H3 (((fQ.rf.tr (fQ.u (Or.inl rfl))).tr (fQ.u (Or.inl rfl))).tr (fQ.u (Or.inl rfl))))
        · refine r_aload_n (p := 68) rfl rfl rfl ?_
          refine r_aload_n (p := 69) rfl rfl rfl ?_
          refine r_getI (p := 72) rfl rfl rfl rfl ?_
          rw [H3.2.1]
          refine r_cV (p := 75) rfl rfl rfl (Nat.le_of_ble_eq_true rfl) rfl (s_X5_failAt (e := (p + 3)) H3 (by omega) (fun F9 R9 f9 => ?_))
          refine r_iload_n (p := 76) rfl rfl rfl ?_
          have e : num t p = ((va (va (va 0 (tg0 t p)) (tg0 t (p + 1))) (tg0 t (p + 2))), (p + 3), some (p + 3)) := by unfold num; rw [if_neg (not_not_intro d0), if_neg (not_not_intro d1), if_neg (not_not_intro d2), if_pos (Classical.byContradiction fun q => c6 (if_neg q))]
          rw [e] at hQ
          exact r_ireturn rfl trivial (hQ _ R9 (fQ.tr (((fQ.rf.tr (fQ.u (Or.inl rfl))).tr (fQ.u (Or.inl rfl))).tr (fQ.u (Or.inl rfl))) f9))
set_option maxRecDepth 100000 in
theorem s_X5_readArgument {d : Nat} {Y : mY} {F : mF} {M : mM} {L : mL} {t : List Int32} {p c : Nat} {W : Option Nat} {Q : Option Value → mW → Prop} (H : PS t F M p W c) {g : Bool} (hQ : (∀ F', PS t F' M (argP t g p).2.1 (fW W (argP t g p).2.2) c → fQ F F' → Q (some (.int (argP t g p).1)) (mXY Y, F', M, L))) : Cw (d + 3) 160 [.ref 29, .int (if g = true then 1 else 0)] (mXY Y, F, M, L) Q := by
  refine Cw_in rfl rfl ?_
  refine r_aload_n (p := 1) rfl rfl rfl ?_
  refine r_cV (p := 4) rfl rfl rfl (Nat.le_of_ble_eq_true rfl) rfl (s_X5_skip H (fun F1 R1 f1 => ?_))
  refine r_iload_n (p := 5) rfl rfl rfl ?_
  refine r_if_eq (p := 8) rfl rfl (fun c1 => ?_) (fun c1 => ?_)
  · have e : argP t g p = num t (spc t p) := if_neg (fun z => absurd c1 (by rw [if_pos z.1]; decide))
    rw [e] at hQ
    refine r_aload_n (p := 30) rfl rfl rfl ?_
    refine r_cV (p := 33) rfl rfl rfl (Nat.le_of_ble_eq_true rfl) rfl (s_X5_readNumber R1 (fun F2 R2 f2 => ?_))
    exact r_ireturn rfl trivial (hQ _ R2 (f1.tr f2))
  · refine r_aload_n (p := 9) rfl rfl rfl ?_
    refine r_cV (p := 12) rfl rfl rfl (Nat.le_of_ble_eq_true rfl) rfl (s_X5_here R1 ?_)
    refine r_bipush (v := 45) (p := 14) rfl rfl rfl ?_
    refine r_icmp_ne (p := 17) rfl rfl (fun c2 => ?_) (fun c2 => ?_)
    · have e : argP t g p = num t (spc t p) := if_neg (fun z => c2 ((hr_c (by decide)).mpr z.2))
      rw [e] at hQ
      refine r_aload_n (p := 30) rfl rfl rfl ?_
      refine r_cV (p := 33) rfl rfl rfl (Nat.le_of_ble_eq_true rfl) rfl (s_X5_readNumber R1 (fun F2 R2 f2 => ?_))
      exact r_ireturn rfl trivial (hQ _ R2 (f1.tr f2))
    · have hq : chq t (spc t p) 45 := (hr_c (by decide)).mp c2
      refine r_aload_n (p := 18) rfl rfl rfl ?_
      refine r_dup (p := 19) rfl rfl rfl ?_
      refine r_getI (p := 22) rfl rfl rfl rfl ?_
      refine r_iconst (v := 1) (p := 23) rfl rfl rfl ?_
      refine r_iadd (p := 24) rfl rfl ?_
      refine r_putI (p := 27) rfl rfl rfl rfl ?_
      refine r_iconst (v := (-1)) (p := 28) rfl rfl rfl ?_
      have e : argP t g p = (-1, spc t p + 1, none) := if_pos ⟨Classical.byContradiction fun q => c1 (if_neg q), hq⟩
      rw [e] at hQ
      have eW : fW W none = W := by cases W <;> rfl
      rw [eW] at hQ
      exact r_ireturn rfl trivial (hQ _ (R1.mv hq.1) (f1.tr (fQ.u (Or.inl rfl))))
set_option maxRecDepth 100000 in
theorem s_X5_readSemicolon {d : Nat} {Y : mY} {F : mF} {M : mM} {L : mL} {t : List Int32} {p c : Nat} {W : Option Nat} {Q : Option Value → mW → Prop} (H : PS t F M p W c) (hQ : (∀ F', PS t F' M (semP t p W).1 (semP t p W).2 c → fQ F F' → Q none (mXY Y, F', M, L))) : Cw (d + 3) 162 [.ref 29] (mXY Y, F, M, L) Q := by
  refine Cw_in rfl rfl ?_
  refine r_aload_n (p := 1) rfl rfl rfl ?_
  refine r_cV (p := 4) rfl rfl rfl (Nat.le_of_ble_eq_true rfl) rfl (s_X5_skip H (fun F1 R1 f1 => ?_))
  refine r_aload_n (p := 5) rfl rfl rfl ?_
  refine r_cV (p := 8) rfl rfl rfl (Nat.le_of_ble_eq_true rfl) rfl (s_X5_here R1 ?_)
  refine r_bipush (v := 59) (p := 10) rfl rfl rfl ?_
  refine r_icmp_ne (p := 13) rfl rfl (fun c1 => ?_) (fun c1 => ?_)
  · refine r_aload_n (p := 27) rfl rfl rfl ?_
    refine r_aload_n (p := 28) rfl rfl rfl ?_
    refine r_getI (p := 31) rfl rfl rfl rfl ?_
    rw [R1.2.1]
    refine r_cV (p := 34) rfl rfl rfl (Nat.le_of_ble_eq_true rfl) rfl (s_X5_failAt (e := spc t p) R1 (by have := R1.2.2.2.2.2; omega) (fun F2 R2 f2 => ?_))
    have e : semP t p W = (spc t p, fW W (some (spc t p))) := if_neg (fun z => c1 ((hr_c (by decide)).mpr z))
    rw [e] at hQ
    exact r_return rfl (hQ _ R2 (f1.tr f2))
  · have hq : chq t (spc t p) 59 := (hr_c (by decide)).mp c1
    refine r_aload_n (p := 14) rfl rfl rfl ?_
    refine r_dup (p := 15) rfl rfl rfl ?_
    refine r_getI (p := 18) rfl rfl rfl rfl ?_
    refine r_iconst (v := 1) (p := 19) rfl rfl rfl ?_
    refine r_iadd (p := 20) rfl rfl ?_
    refine r_putI (p := 23) rfl rfl rfl rfl ?_
    refine r_goto rfl ?_
    have e : semP t p W = (spc t p + 1, W) := if_pos hq
    rw [e] at hQ
    exact r_return rfl (hQ _ (R1.mv hq.1) (f1.tr (fQ.u (Or.inl rfl))))
