def f_X7_in (F : mF) (M : mM) (x : Int32) (a : Int32) (b : Int32) : Int32 := (if x < a then 0 else (if b < x then 0 else 1))
set_option maxRecDepth 100000 in
theorem s_X7_in {d : Nat} {X : mX} {F : mF} {M : mM} {L : mL} {x : Int32} {a : Int32} {b : Int32} {Q : Option Value → mW → Prop} (hQ : Q (some (.int (f_X7_in F M x a b))) (X, F, M, L)) : Cw (d + 1) 2 [.int x, .int a, .int b] (X, F, M, L) Q := by
  refine Cw_in rfl rfl ?_
  refine r_iload_n (p := 1) rfl rfl rfl ?_
  refine r_iload_n (p := 2) rfl rfl rfl ?_
  refine r_icmp_lt (p := 5) rfl rfl (fun c1 => ?_) (fun c1 => ?_)
  · refine r_iconst (v := 0) (p := 15) rfl rfl rfl ?_
    refine r_ireturn rfl mok_0 ?_
    simp only [f_X7_in, if_pos c1] at hQ; exact hQ
  · refine r_iload_n (p := 6) rfl rfl rfl ?_
    refine r_iload_n (p := 7) rfl rfl rfl ?_
    refine r_icmp_gt (p := 10) rfl rfl (fun c2 => ?_) (fun c2 => ?_)
    · refine r_iconst (v := 0) (p := 15) rfl rfl rfl ?_
      refine r_ireturn rfl mok_0 ?_
      simp only [f_X7_in, if_neg c1, if_pos c2] at hQ; exact hQ
    · refine r_iconst (v := 1) (p := 11) rfl rfl rfl ?_
      refine r_goto rfl ?_
      refine r_ireturn rfl mok_1 ?_
      simp only [f_X7_in, if_neg c1, if_neg c2] at hQ; exact hQ
theorem in_eq {F : mF} {M : mM} {x a b : Int32} : f_X7_in F M x a b = if ¬ x < a ∧ ¬ b < x then 1 else 0 := by
  unfold f_X7_in
  by_cases h1 : x < a
  · rw [if_pos h1, if_neg (fun z => z.1 h1)]
  · rw [if_neg h1]
    by_cases h2 : b < x
    · rw [if_pos h2, if_neg (fun z => z.2 h2)]
    · rw [if_neg h2, if_pos ⟨h1, h2⟩]
def f_X7_isYoung (F : mF) (M : mM) (v : Int32) : Int32 := (if v = (-1) then 0 else (if (M 35 v) = 1 then 1 else 0))
set_option maxRecDepth 100000 in
theorem s_X7_isYoung {d : Nat} {Y : mY} {F : mF} {M : mM} {L : mL} {v : Int32} {Q : Option Value → mW → Prop} (hv : ¬ v = -1 → inR v) (hQ : Q (some (.int (f_X7_isYoung F M v))) ((mXY Y), F, M, L)) : Cw (d + 1) 6 [.ref 34, .int v] ((mXY Y), F, M, L) Q := by
  refine Cw_in rfl rfl ?_
  refine r_iload_n (p := 1) rfl rfl rfl ?_
  refine r_iconst (v := (-1)) (p := 2) rfl rfl rfl ?_
  refine r_icmp_eq (p := 5) rfl rfl (fun c1 => ?_) (fun c1 => ?_)
  · refine r_iconst (v := 0) (p := 20) rfl rfl rfl ?_
    refine r_ireturn rfl mok_0 ?_
    simp only [f_X7_isYoung, if_pos c1] at hQ; exact hQ
  · refine r_aload_n (p := 6) rfl rfl rfl ?_
    refine r_getR (p := 9) rfl rfl rfl rfl rfl ?_
    refine r_iload_n (p := 10) rfl rfl rfl ?_
    refine r_iald (p := 11) rfl rfl rfl (vp100 (hv (by assumption))) rfl ?_
    refine r_iconst (v := 1) (p := 12) rfl rfl rfl ?_
    refine r_icmp_ne (p := 15) rfl rfl (fun c2 => ?_) (fun c2 => ?_)
    · refine r_iconst (v := 0) (p := 20) rfl rfl rfl ?_
      refine r_ireturn rfl mok_0 ?_
      simp only [f_X7_isYoung, if_neg c1, if_neg c2] at hQ; exact hQ
    · refine r_iconst (v := 1) (p := 16) rfl rfl rfl ?_
      refine r_goto rfl ?_
      refine r_ireturn rfl mok_1 ?_
      simp only [f_X7_isYoung, if_neg c1, if_pos c2] at hQ; exact hQ
def f_X7_isWhite (F : mF) (M : mM) (v : Int32) : Int32 := (if v = (-1) then 0 else (if (M 35 v) = 2 then (if (M 39 v) = 0 then 1 else 0) else 0))
set_option maxRecDepth 100000 in
theorem s_X7_isWhite {d : Nat} {Y : mY} {F : mF} {M : mM} {L : mL} {v : Int32} {Q : Option Value → mW → Prop} (hv : ¬ v = -1 → inR v) (hQ : Q (some (.int (f_X7_isWhite F M v))) ((mXY Y), F, M, L)) : Cw (d + 1) 7 [.ref 34, .int v] ((mXY Y), F, M, L) Q := by
  refine Cw_in rfl rfl ?_
  refine r_iload_n (p := 1) rfl rfl rfl ?_
  refine r_iconst (v := (-1)) (p := 2) rfl rfl rfl ?_
  refine r_icmp_eq (p := 5) rfl rfl (fun c1 => ?_) (fun c1 => ?_)
  · refine r_iconst (v := 0) (p := 29) rfl rfl rfl ?_
    refine r_ireturn rfl mok_0 ?_
    simp only [f_X7_isWhite, if_pos c1] at hQ; exact hQ
  · refine r_aload_n (p := 6) rfl rfl rfl ?_
    refine r_getR (p := 9) rfl rfl rfl rfl rfl ?_
    refine r_iload_n (p := 10) rfl rfl rfl ?_
    refine r_iald (p := 11) rfl rfl rfl (vp100 (hv (by assumption))) rfl ?_
    refine r_iconst (v := 2) (p := 12) rfl rfl rfl ?_
    refine r_icmp_ne (p := 15) rfl rfl (fun c2 => ?_) (fun c2 => ?_)
    · refine r_iconst (v := 0) (p := 29) rfl rfl rfl ?_
      refine r_ireturn rfl mok_0 ?_
      simp only [f_X7_isWhite, if_neg c1, if_neg c2] at hQ; exact hQ
    · refine r_aload_n (p := 16) rfl rfl rfl ?_
      refine r_getR (p := 19) rfl rfl rfl rfl rfl ?_
      refine r_iload_n (p := 20) rfl rfl rfl ?_
      refine r_iald (p := 21) rfl rfl rfl (vp100 (hv (by assumption))) rfl ?_
      refine r_if_ne (p := 24) rfl rfl (fun c3 => ?_) (fun c3 => ?_)
      · refine r_iconst (v := 0) (p := 29) rfl rfl rfl ?_
        refine r_ireturn rfl mok_0 ?_
        simp only [f_X7_isWhite, if_neg c1, if_pos c2, if_neg c3] at hQ; exact hQ
      · refine r_iconst (v := 1) (p := 25) rfl rfl rfl ?_
        refine r_goto rfl ?_
        refine r_ireturn rfl mok_1 ?_
        simp only [f_X7_isWhite, if_neg c1, if_pos c2, if_pos c3] at hQ; exact hQ
theorem al_in {s : mSt} (hI : Inv s) {v : Int32} (h : ¬ v < 0 ∧ ¬ sAl s - 1 < v) : inR v ∧ v < sAl s := by
  obtain ⟨n, n1, n2, n3⟩ := hI.1
  obtain ⟨b, hb, rfl⟩ := nI_of h.1
  have h2 := h.2
  rw [n2] at h2 ⊢
  cases n with
  | zero => exact absurd (show nI 0 - 1 < nI b from Int32.lt_of_lt_of_le (by decide) (nI_pos' hb)) h2
  | succ m =>
    rw [nI_pred] at h2
    have : b ≤ m := Nat.le_of_not_lt fun q => h2 (nI_lt q hb)
    exact ⟨inR_nI (by omega), nI_lt (by omega) (by omega)⟩
theorem al_not {s : mSt} (hI : Inv s) {v : Int32} (h : ¬ (¬ v < 0 ∧ ¬ sAl s - 1 < v)) : ¬ liveP s v := fun z => h (by
  obtain ⟨n, n1, n2, n3⟩ := hI.1
  refine ⟨z.1.1, ?_⟩
  obtain ⟨b, hb, rfl⟩ := inR_of z.1
  have hbn : b < n := Nat.lt_of_not_le fun q => z.2 (n3 b q hb)
  rw [n2]
  cases n with
  | zero => omega
  | succ m => rw [nI_pred]; exact nI_nlt (by omega) (by omega))
theorem RR.yng {s : mSt} {F : mF} {M : mM} (H : RR s F M) {v : Int32} (hv : ¬ v = -1 → inR v) : f_X7_isYoung F M v = if yngP s v then 1 else 0 := by
  unfold f_X7_isYoung
  by_cases h1 : v = -1
  · rw [if_pos h1, if_neg (fun z => absurd z.1.1 (by rw [h1]; decide))]
  · rw [if_neg h1, H.1 v (hv h1)]
    by_cases h3 : sG s v = 1
    · rw [if_pos h3, if_pos ⟨hv h1, h3⟩]
    · rw [if_neg h3, if_neg (fun z => h3 z.2)]
theorem RR.wht {s : mSt} {F : mF} {M : mM} (H : RR s F M) (hp : ¬ sPh s = 0) {v : Int32} (hv : ¬ v = -1 → inR v) : f_X7_isWhite F M v = if whtP s v then 1 else 0 := by
  unfold f_X7_isWhite
  by_cases h1 : v = -1
  · rw [if_pos h1, if_neg (fun z => absurd z.1.1 (by rw [h1]; decide))]
  · rw [if_neg h1, H.1 v (hv h1)]
    by_cases h3 : sG s v = 2
    · rw [if_pos h3, H.2.2.2.1 v (hv h1) h3 hp]
      by_cases h4 : sC s v = 0
      · rw [if_pos h4, if_pos ⟨hv h1, h3, h4⟩]
      · rw [if_neg h4, if_neg (fun z => h4 z.2.2)]
    · rw [if_neg h3, if_neg (fun z => h3 z.2.1)]
set_option maxRecDepth 100000 in
theorem s_X7_isThere {d : Nat} {Y : mY} {F : mF} {M : mM} {L : mL} {s : mSt} {v : Int32} {Q : Option Value → mW → Prop} (H : RR s F M) (hI : Inv s) (hQ : Q (some (.int (if liveP s v then 1 else 0))) (mXY Y, F, M, L)) : Cw (d + 2) 4 [.ref 34, .int v] (mXY Y, F, M, L) Q := by
  refine Cw_in rfl rfl ?_
  refine r_iload_n (p := 1) rfl rfl rfl ?_
  refine r_iconst (v := 0) (p := 2) rfl rfl rfl ?_
  refine r_aload_n (p := 3) rfl rfl rfl ?_
  refine r_getI (p := 6) rfl rfl rfl rfl ?_
  refine r_iconst (v := 1) (p := 7) rfl rfl rfl ?_
  refine r_isub (p := 8) rfl rfl ?_
  refine r_cS1 (p := 11) rfl rfl (Nat.le_of_ble_eq_true rfl) rfl (s_X7_in ?_)
  rw [in_eq, H.alw]
  refine r_if_eq (p := 14) rfl rfl (fun c1 => ?_) (fun c1 => ?_)
  · refine r_iconst (v := 0) (p := 28) rfl rfl rfl ?_
    have h := al_not hI (fun z => absurd c1 (by rw [if_pos z]; decide))
    rw [if_neg h] at hQ
    refine r_ireturn rfl mok_0 ?_
    exact hQ
  · refine r_aload_n (p := 15) rfl rfl rfl ?_
    have hi := al_in hI (Classical.byContradiction fun q => c1 (if_neg q))
    refine r_getR (p := 18) rfl rfl rfl rfl rfl ?_
    refine r_iload_n (p := 19) rfl rfl rfl ?_
    refine r_iald (p := 20) rfl rfl rfl (vp100 hi.1) rfl ?_
    refine r_if_eq (p := 23) rfl rfl (fun c2 => ?_) (fun c2 => ?_)
    · refine r_iconst (v := 0) (p := 28) rfl rfl rfl ?_
      rw [if_neg (fun z => z.2 (by rw [← H.1 v hi.1]; exact c2))] at hQ
      refine r_ireturn rfl mok_0 ?_
      exact hQ
    · refine r_iconst (v := 1) (p := 24) rfl rfl rfl ?_
      refine r_goto rfl ?_
      rw [if_pos ⟨hi.1, fun z => c2 (by rw [H.1 v hi.1]; exact z)⟩] at hQ
      refine r_ireturn rfl mok_1 ?_
      exact hQ
