def CM (M : mM) (cs : List (Nat × List Int32)) : Prop := ∀ k, k < cs.length → M 30 (nI k) = nI (cs.getD k (0, [])).1 ∧ (cs.getD k (0, [])).2.length ≤ 3 ∧ ∀ i, i < (cs.getD k (0, [])).2.length → M 31 (nI k * 3 + nI i) = (cs.getD k (0, [])).2.getD i 0
def fP (F : mF) (M : mM) (F' : mF) (M' : mM) : Prop := (∀ a k, a ≠ 29 ∨ k < 4 → F' a k = F a k) ∧ ∀ a i, a ≠ 30 → a ≠ 31 → M' a i = M a i
theorem fP.rf {F : mF} {M : mM} : fP F M F M := ⟨fun _ _ _ => rfl, fun _ _ _ _ => rfl⟩
theorem fP.tr {F F1 F2 : mF} {M M1 M2 : mM} (a : fP F M F1 M1) (b : fP F1 M1 F2 M2) : fP F M F2 M2 := ⟨fun x k h => (b.1 x k h).trans (a.1 x k h), fun x k h h2 => (b.2 x k h h2).trans (a.2 x k h h2)⟩
theorem fQ.p {F F' : mF} {M : mM} (a : fQ F F') : fP F M F' M := ⟨fun x k h => a x k (by omega), fun _ _ _ _ => rfl⟩
theorem fP.m {F : mF} {M : mM} {h : Nat} {i x : Int32} (hh : h = 30 ∨ h = 31) : fP F M F (uM M h i x) := ⟨fun _ _ _ => rfl, fun a j h1 h2 => uM_ne (by omega)⟩
theorem ix3 (k i : Nat) : nI k * 3 + nI i = nI (3 * k + i) := by
  rw [← nI_add, show (3 : Int32) = nI 3 from rfl]
  congr 1
  simp [nI, Int32.mul_comm]
theorem ix3_ne {k i c j : Nat} (hk : k < 100) (hc : c < 100) (hi : i < 3) (hj : j < 3) (h : ¬ (k = c ∧ i = j)) : ¬ nI k * 3 + nI i = nI c * 3 + nI j := fun q => by
  rw [ix3, ix3] at q
  have := nI_inj (by omega) (by omega) q
  omega
theorem CM.app {M M' : mM} {cs : List (Nat × List Int32)} {w : Nat} {vs : List Int32} (H : CM M cs) (hc : cs.length < 100) (h1 : ∀ k, k < cs.length → M' 30 (nI k) = M 30 (nI k)) (h2 : ∀ k i, k < cs.length → i < 3 → M' 31 (nI k * 3 + nI i) = M 31 (nI k * 3 + nI i)) (h3 : M' 30 (nI cs.length) = nI w) (hv : vs.length ≤ 3) (h4 : ∀ i, i < vs.length → M' 31 (nI cs.length * 3 + nI i) = vs.getD i 0) : CM M' (cs ++ [(w, vs)]) := by
  intro k hk
  simp only [List.length_append, List.length_singleton] at hk
  by_cases e : k < cs.length
  · have z := H k e
    have eg : (cs ++ [(w, vs)]).getD k (0, []) = cs.getD k (0, []) := by simp [List.getD_eq_getElem?_getD, List.getElem?_append_left e]
    rw [eg]
    exact ⟨(h1 k e).trans z.1, z.2.1, fun i hi => (h2 k i e (by omega)).trans (z.2.2 i hi)⟩
  · have ek : k = cs.length := by omega
    subst ek
    have eg : (cs ++ [(w, vs)]).getD cs.length (0, []) = (w, vs) := by simp [List.getD_eq_getElem?_getD]
    rw [eg]
    exact ⟨h3, hv, h4⟩
theorem vp75 {c j : Nat} (hc : c < 25) (hj : j < 3) : vp_in (nI c * 3 + nI j) 75 := by rw [ix3]; exact vp_in_nI (by omega) (by omega)
theorem PS.m {t : List Int32} {F : mF} {M : mM} {p c : Nat} {W : Option Nat} (H : PS t F M p W c) {h : Nat} {i x : Int32} (hh : h = 30 ∨ h = 31) : PS t F (uM M h i x) p W c := ⟨H.1.fr (fun i => uM_ne (by omega)), H.2⟩
theorem PS.inc {t : List Int32} {F : mF} {M : mM} {p c : Nat} {W : Option Nat} (H : PS t F M p W c) : PS t (uF F 29 6 (F 29 6 + 1)) M p W (c + 1) := ⟨H.1, H.2.1, H.2.2.1, by show F 29 6 + 1 = _; rw [H.2.2.2.1, nI_1], H.2.2.2.2⟩
theorem fP.c {F : mF} {M : mM} {x : Int32} : fP F M (uF F 29 6 x) M := ⟨fun a j h => by
  by_cases e : a = 29
  · exact uF_nk (by omega)
  · exact uF_ne e, fun _ _ _ _ => rfl⟩
def f_X5_takesTarget (F : mF) (M : mM) (w : Int32) (i : Int32) : Int32 := (if w = 1 then (if i = 1 then 1 else (if w = 2 then (if i = 2 then 1 else 0) else 0)) else (if w = 2 then (if i = 2 then 1 else 0) else 0))
set_option maxRecDepth 100000 in
theorem s_X5_takesTarget {d : Nat} {X : mX} {F : mF} {M : mM} {L : mL} {w : Int32} {i : Int32} {Q : Option Value → mW → Prop} (hQ : Q (some (.int (f_X5_takesTarget F M w i))) (X, F, M, L)) : Cw (d + 1) 158 [.int w, .int i] (X, F, M, L) Q := by
  refine Cw_in rfl rfl ?_
  refine r_iload_n (p := 1) rfl rfl rfl ?_
  refine r_iconst (v := 1) (p := 2) rfl rfl rfl ?_
  refine r_icmp_ne (p := 5) rfl rfl (fun c1 => ?_) (fun c1 => ?_)
  · refine r_iload_n (p := 11) rfl rfl rfl ?_
    refine r_iconst (v := 2) (p := 12) rfl rfl rfl ?_
    refine r_icmp_ne (p := 15) rfl rfl (fun c2 => ?_) (fun c2 => ?_)
    · refine r_iconst (v := 0) (p := 25) rfl rfl rfl ?_
      refine r_ireturn rfl mok_0 ?_
      simp only [f_X5_takesTarget, if_neg c1, if_neg c2] at hQ; exact hQ
    · refine r_iload_n (p := 16) rfl rfl rfl ?_
      refine r_iconst (v := 2) (p := 17) rfl rfl rfl ?_
      refine r_icmp_ne (p := 20) rfl rfl (fun c3 => ?_) (fun c3 => ?_)
      · refine r_iconst (v := 0) (p := 25) rfl rfl rfl ?_
        refine r_ireturn rfl mok_0 ?_
        simp only [f_X5_takesTarget, if_neg c1, if_pos c2, if_neg c3] at hQ; exact hQ
      · refine r_iconst (v := 1) (p := 21) rfl rfl rfl ?_
        refine r_goto rfl ?_
        refine r_ireturn rfl mok_1 ?_
        simp only [f_X5_takesTarget, if_neg c1, if_pos c2, if_pos c3] at hQ; exact hQ
  · refine r_iload_n (p := 6) rfl rfl rfl ?_
    refine r_iconst (v := 1) (p := 7) rfl rfl rfl ?_
    refine r_icmp_eq (p := 10) rfl rfl (fun c4 => ?_) (fun c4 => ?_)
    · refine r_iconst (v := 1) (p := 21) rfl rfl rfl ?_
      refine r_goto rfl ?_
      refine r_ireturn rfl mok_1 ?_
      simp only [f_X5_takesTarget, if_pos c1, if_pos c4] at hQ; exact hQ
    · refine r_iload_n (p := 11) rfl rfl rfl ?_
      refine r_iconst (v := 2) (p := 12) rfl rfl rfl ?_
      refine r_icmp_ne (p := 15) rfl rfl (fun c5 => ?_) (fun c5 => ?_)
      · refine r_iconst (v := 0) (p := 25) rfl rfl rfl ?_
        refine r_ireturn rfl mok_0 ?_
        simp only [f_X5_takesTarget, if_pos c1, if_neg c4, if_neg c5] at hQ; exact hQ
      · refine r_iload_n (p := 16) rfl rfl rfl ?_
        refine r_iconst (v := 2) (p := 17) rfl rfl rfl ?_
        refine r_icmp_ne (p := 20) rfl rfl (fun c6 => ?_) (fun c6 => ?_)
        · refine r_iconst (v := 0) (p := 25) rfl rfl rfl ?_
          refine r_ireturn rfl mok_0 ?_
          simp only [f_X5_takesTarget, if_pos c1, if_neg c4, if_pos c5, if_neg c6] at hQ; exact hQ
        · refine r_iconst (v := 1) (p := 21) rfl rfl rfl ?_
          refine r_goto rfl ?_
          refine r_ireturn rfl mok_1 ?_
          simp only [f_X5_takesTarget, if_pos c1, if_neg c4, if_pos c5, if_pos c6] at hQ; exact hQ
set_option maxRecDepth 100000 in
theorem pc_w0 {d : Nat} {Y : mY} {F : mF} {M : mM} {L : mL} {t : List Int32} {p c : Nat} {cs : List (Nat × List Int32)} {Q : Option Value → mW → Prop} (H : PS t F M p none c) (hE : eOk (mXY Y)) (hc : c < 25) (hcs : cs.length = c) (hM : CM M cs) {F2 : mF} (ew : wrd t (spc t p) (lts t (spc t p)) = 0) (R2 : PS t F2 M (lts t (spc t p)) none c) (f2 : fQ F F2) (hQ : (∀ F' M', PS t F' M' (spc t (cmd t (spc t p)).2.2.1) (cmd t (spc t p)).2.2.2 (if (cmd t (spc t p)).1 = 6 then c else c + 1) → fP F M F' M' → ((cmd t (spc t p)).2.2.2 = none → CM M' (cs ++ [((cmd t (spc t p)).1, (cmd t (spc t p)).2.1)])) → Q none (mXY Y, F', M', L))) : Wp (d + 7) tX5_parseCommand 8 [some (.ref 29), none, none, none] [.int 0] (mXY Y, F2, M, L) Q := by
  have h3 := H.2.2.2.2.2
  refine r_istore_n (p := 9) rfl rfl rfl ?_
  refine r_iload_n (p := 10) rfl rfl rfl ?_
  refine r_if_lt (p := 13) rfl rfl (fun c => absurd c (by decide)) (fun _ => ?_)
  refine r_iload_n (p := 14) rfl rfl rfl ?_
  refine r_getsR (p := 17) rfl rfl rfl ?_
  refine r_alen_i (v := 6) (p := 18) rfl rfl rfl rfl ?_
  refine r_icmp_ge (p := 21) rfl rfl (fun c => absurd c (by decide)) (fun _ => ?_)
  refine r_aload_n (p := 22) rfl rfl rfl ?_
  refine r_getI (p := 25) rfl rfl rfl rfl ?_
  rw [R2.2.2.2.1]
  refine r_bipush (v := 25) (p := 27) rfl rfl rfl ?_
  refine r_icmp_ge (p := 30) rfl rfl (fun c1 => ?_) (fun c1 => ?_)
  · exact absurd c1 (nI_ge (a := c) (b := 25) hc (by omega))
  · refine r_aload_n (p := 31) rfl rfl rfl ?_
    refine r_getR (p := 34) rfl rfl rfl rfl rfl ?_
    refine r_aload_n (p := 35) rfl rfl rfl ?_
    refine r_getI (p := 38) rfl rfl rfl rfl ?_
    rw [R2.2.2.2.1]
    refine r_iload_n (p := 39) rfl rfl rfl ?_
    refine r_iast (p := 40) rfl rfl rfl (vp_in_nI (show c < 25 by omega) (by omega)) (by decide) rfl ?_
    have R2 := R2.m (h := 30) (i := nI c) (x := 0) (Or.inl rfl)
    refine r_iconst (v := 0) (p := 41) rfl rfl rfl ?_
    refine r_istore_n (p := 42) rfl rfl rfl ?_
    refine r_iload_n (p := 43) rfl rfl rfl ?_
    refine r_getsR (p := 46) rfl rfl rfl ?_
    refine r_iload_n (p := 47) rfl rfl rfl ?_
    refine r_iald_ro (p := 48) rfl rfl rfl (vpi (v := 6) (by decide) rfl (by decide) (by decide)) rfl ?_
    rw [show mroM (mXY Y).2.2.2.2 1000200 0 = 1 from rfl]
    refine r_icmp_ge (p := 51) rfl rfl (fun c => absurd c (by decide)) (fun _ => ?_)
    refine r_aload_n (p := 52) rfl rfl rfl ?_
    refine r_iload_n (p := 53) rfl rfl rfl ?_
    refine r_iload_n (p := 54) rfl rfl rfl ?_
    refine r_cS1 (p := 57) rfl rfl (Nat.le_of_ble_eq_true rfl) rfl (s_X5_takesTarget ?_)
    rw [show f_X5_takesTarget _ _ 0 0 = (if false = true then 1 else 0) from rfl]
    refine r_cV (p := 60) rfl rfl rfl (Nat.le_of_ble_eq_true rfl) rfl (s_X5_readArgument (g := false) R2 (fun F3 R3 f3 => ?_))
    refine r_istore_n (p := 61) rfl rfl rfl ?_
    refine r_aload_n (p := 62) rfl rfl rfl ?_
    refine r_getR (p := 65) rfl rfl rfl rfl rfl ?_
    refine r_aload_n (p := 66) rfl rfl rfl ?_
    refine r_getI (p := 69) rfl rfl rfl rfl ?_
    rw [R3.2.2.2.1]
    refine r_iconst (v := 3) (p := 70) rfl rfl rfl ?_
    refine r_imul (p := 71) rfl rfl ?_
    refine r_iload_n (p := 72) rfl rfl rfl ?_
    refine r_iadd (p := 73) rfl rfl ?_
    refine r_iload_n (p := 74) rfl rfl rfl ?_
    refine r_iast (p := 75) rfl rfl rfl (vp75 (j := 0) hc (by omega)) (by decide) rfl ?_
    have R3 := R3.m (h := 31) (i := nI c * 3 + 0) (x := (argP t false (lts t (spc t p))).1) (Or.inr rfl)
    refine r_iinc (v := 1) (p := 78) rfl rfl rfl rfl rfl ?_
    refine r_goto rfl ?_
    refine r_iload_n (p := 43) rfl rfl rfl ?_
    refine r_getsR (p := 46) rfl rfl rfl ?_
    refine r_iload_n (p := 47) rfl rfl rfl ?_
    refine r_iald_ro (p := 48) rfl rfl rfl (vpi (v := 6) (by decide) rfl (by decide) (by decide)) rfl ?_
    rw [show mroM (mXY Y).2.2.2.2 1000200 0 = 1 from rfl]
    refine r_icmp_ge (p := 51) rfl rfl (fun _ => ?_) (fun c => absurd c (by decide))
    refine r_aload_n (p := 82) rfl rfl rfl ?_
    refine r_cV (p := 85) rfl rfl rfl (Nat.le_of_ble_eq_true rfl) rfl (s_X5_readSemicolon R3 (fun F4 R4 f4 => ?_))
    refine r_aload_n (p := 86) rfl rfl rfl ?_
    refine r_dup (p := 87) rfl rfl rfl ?_
    refine r_getI (p := 90) rfl rfl rfl rfl ?_
    refine r_iconst (v := 1) (p := 91) rfl rfl rfl ?_
    refine r_iadd (p := 92) rfl rfl ?_
    refine r_putI (p := 95) rfl rfl rfl rfl ?_
    have RI := R4.inc
    refine r_aload_n (p := 96) rfl rfl rfl ?_
    refine r_cV (p := 99) rfl rfl rfl (Nat.le_of_ble_eq_true rfl) rfl (s_X5_skip RI (fun F9 R9 f9 => ?_))
    have ec : cmd t (spc t p) = (0, (argsP t (aT 0) (lts t (spc t p)) none).1, semP t (argsP t (aT 0) (lts t (spc t p)) none).2.1 (argsP t (aT 0) (lts t (spc t p)) none).2.2) := by
      unfold cmd
      rw [if_neg (by rw [ew]; decide), ew]
    rw [ec] at hQ
    subst hcs
    refine r_return rfl (hQ F9 _ R9 (((((f2.p.tr (fP.m (Or.inl rfl))).tr f3.p).tr (fP.m (Or.inr rfl))).tr f4.p).tr (fP.c.tr f9.p)) (fun z => CM.app hM (by omega) (fun k hk => (uM_ne (by omega)).trans ((uM_at).trans (if_neg (fun q => by have := nI_inj (by omega) (by omega) q; omega)))) (fun k i hk hi => (uM_at.trans (if_neg (ix3_ne (by omega) (by omega) hi (show 0 < 3 by omega) (by omega)))).trans (uM_ne (by omega))) ((uM_ne (by omega)).trans (uM_at.trans (if_pos rfl))) (by show 1 ≤ 3; omega) (fun i hi => ?_)))
    have hi : i < 1 := hi
    have q : i = 0 := by omega
    subst q; exact uM_at.trans (if_pos rfl)
set_option maxRecDepth 100000 in
theorem pc_w1 {d : Nat} {Y : mY} {F : mF} {M : mM} {L : mL} {t : List Int32} {p c : Nat} {cs : List (Nat × List Int32)} {Q : Option Value → mW → Prop} (H : PS t F M p none c) (hE : eOk (mXY Y)) (hc : c < 25) (hcs : cs.length = c) (hM : CM M cs) {F2 : mF} (ew : wrd t (spc t p) (lts t (spc t p)) = 1) (R2 : PS t F2 M (lts t (spc t p)) none c) (f2 : fQ F F2) (hQ : (∀ F' M', PS t F' M' (spc t (cmd t (spc t p)).2.2.1) (cmd t (spc t p)).2.2.2 (if (cmd t (spc t p)).1 = 6 then c else c + 1) → fP F M F' M' → ((cmd t (spc t p)).2.2.2 = none → CM M' (cs ++ [((cmd t (spc t p)).1, (cmd t (spc t p)).2.1)])) → Q none (mXY Y, F', M', L))) : Wp (d + 7) tX5_parseCommand 8 [some (.ref 29), none, none, none] [.int 1] (mXY Y, F2, M, L) Q := by
  have h3 := H.2.2.2.2.2
  refine r_istore_n (p := 9) rfl rfl rfl ?_
  refine r_iload_n (p := 10) rfl rfl rfl ?_
  refine r_if_lt (p := 13) rfl rfl (fun c => absurd c (by decide)) (fun _ => ?_)
  refine r_iload_n (p := 14) rfl rfl rfl ?_
  refine r_getsR (p := 17) rfl rfl rfl ?_
  refine r_alen_i (v := 6) (p := 18) rfl rfl rfl rfl ?_
  refine r_icmp_ge (p := 21) rfl rfl (fun c => absurd c (by decide)) (fun _ => ?_)
  refine r_aload_n (p := 22) rfl rfl rfl ?_
  refine r_getI (p := 25) rfl rfl rfl rfl ?_
  rw [R2.2.2.2.1]
  refine r_bipush (v := 25) (p := 27) rfl rfl rfl ?_
  refine r_icmp_ge (p := 30) rfl rfl (fun c1 => ?_) (fun c1 => ?_)
  · exact absurd c1 (nI_ge (a := c) (b := 25) hc (by omega))
  · refine r_aload_n (p := 31) rfl rfl rfl ?_
    refine r_getR (p := 34) rfl rfl rfl rfl rfl ?_
    refine r_aload_n (p := 35) rfl rfl rfl ?_
    refine r_getI (p := 38) rfl rfl rfl rfl ?_
    rw [R2.2.2.2.1]
    refine r_iload_n (p := 39) rfl rfl rfl ?_
    refine r_iast (p := 40) rfl rfl rfl (vp_in_nI (show c < 25 by omega) (by omega)) (by decide) rfl ?_
    have R2 := R2.m (h := 30) (i := nI c) (x := 1) (Or.inl rfl)
    refine r_iconst (v := 0) (p := 41) rfl rfl rfl ?_
    refine r_istore_n (p := 42) rfl rfl rfl ?_
    refine r_iload_n (p := 43) rfl rfl rfl ?_
    refine r_getsR (p := 46) rfl rfl rfl ?_
    refine r_iload_n (p := 47) rfl rfl rfl ?_
    refine r_iald_ro (p := 48) rfl rfl rfl (vpi (v := 6) (by decide) rfl (by decide) (by decide)) rfl ?_
    rw [show mroM (mXY Y).2.2.2.2 1000200 1 = 2 from rfl]
    refine r_icmp_ge (p := 51) rfl rfl (fun c => absurd c (by decide)) (fun _ => ?_)
    refine r_aload_n (p := 52) rfl rfl rfl ?_
    refine r_iload_n (p := 53) rfl rfl rfl ?_
    refine r_iload_n (p := 54) rfl rfl rfl ?_
    refine r_cS1 (p := 57) rfl rfl (Nat.le_of_ble_eq_true rfl) rfl (s_X5_takesTarget ?_)
    rw [show f_X5_takesTarget _ _ 1 0 = (if false = true then 1 else 0) from rfl]
    refine r_cV (p := 60) rfl rfl rfl (Nat.le_of_ble_eq_true rfl) rfl (s_X5_readArgument (g := false) R2 (fun F3 R3 f3 => ?_))
    refine r_istore_n (p := 61) rfl rfl rfl ?_
    refine r_aload_n (p := 62) rfl rfl rfl ?_
    refine r_getR (p := 65) rfl rfl rfl rfl rfl ?_
    refine r_aload_n (p := 66) rfl rfl rfl ?_
    refine r_getI (p := 69) rfl rfl rfl rfl ?_
    rw [R3.2.2.2.1]
    refine r_iconst (v := 3) (p := 70) rfl rfl rfl ?_
    refine r_imul (p := 71) rfl rfl ?_
    refine r_iload_n (p := 72) rfl rfl rfl ?_
    refine r_iadd (p := 73) rfl rfl ?_
    refine r_iload_n (p := 74) rfl rfl rfl ?_
    refine r_iast (p := 75) rfl rfl rfl (vp75 (j := 0) hc (by omega)) (by decide) rfl ?_
    have R3 := R3.m (h := 31) (i := nI c * 3 + 0) (x := (argP t false (lts t (spc t p))).1) (Or.inr rfl)
    refine r_iinc (v := 1) (p := 78) rfl rfl rfl rfl rfl ?_
    refine r_goto rfl ?_
    refine r_iload_n (p := 43) rfl rfl rfl ?_
    refine r_getsR (p := 46) rfl rfl rfl ?_
    refine r_iload_n (p := 47) rfl rfl rfl ?_
    refine r_iald_ro (p := 48) rfl rfl rfl (vpi (v := 6) (by decide) rfl (by decide) (by decide)) rfl ?_
    rw [show mroM (mXY Y).2.2.2.2 1000200 1 = 2 from rfl]
    refine r_icmp_ge (p := 51) rfl rfl (fun c => absurd c (by decide)) (fun _ => ?_)
    refine r_aload_n (p := 52) rfl rfl rfl ?_
    refine r_iload_n (p := 53) rfl rfl rfl ?_
    refine r_iload_n (p := 54) rfl rfl rfl ?_
    refine r_cS1 (p := 57) rfl rfl (Nat.le_of_ble_eq_true rfl) rfl (s_X5_takesTarget ?_)
    rw [show f_X5_takesTarget _ _ 1 1 = (if true = true then 1 else 0) from rfl]
    refine r_cV (p := 60) rfl rfl rfl (Nat.le_of_ble_eq_true rfl) rfl (s_X5_readArgument (g := true) R3 (fun F4 R4 f4 => ?_))
    refine r_istore_n (p := 61) rfl rfl rfl ?_
    refine r_aload_n (p := 62) rfl rfl rfl ?_
    refine r_getR (p := 65) rfl rfl rfl rfl rfl ?_
    refine r_aload_n (p := 66) rfl rfl rfl ?_
    refine r_getI (p := 69) rfl rfl rfl rfl ?_
    rw [R4.2.2.2.1]
    refine r_iconst (v := 3) (p := 70) rfl rfl rfl ?_
    refine r_imul (p := 71) rfl rfl ?_
    refine r_iload_n (p := 72) rfl rfl rfl ?_
    refine r_iadd (p := 73) rfl rfl ?_
    refine r_iload_n (p := 74) rfl rfl rfl ?_
    refine r_iast (p := 75) rfl rfl rfl (vp75 (j := 1) hc (by omega)) (by decide) rfl ?_
    have R4 := R4.m (h := 31) (i := nI c * 3 + 1) (x := (argP t true (argP t false (lts t (spc t p))).2.1).1) (Or.inr rfl)
    refine r_iinc (v := 2) (p := 78) rfl rfl rfl rfl rfl ?_
    refine r_goto rfl ?_
    refine r_iload_n (p := 43) rfl rfl rfl ?_
    refine r_getsR (p := 46) rfl rfl rfl ?_
    refine r_iload_n (p := 47) rfl rfl rfl ?_
    refine r_iald_ro (p := 48) rfl rfl rfl (vpi (v := 6) (by decide) rfl (by decide) (by decide)) rfl ?_
    rw [show mroM (mXY Y).2.2.2.2 1000200 1 = 2 from rfl]
    refine r_icmp_ge (p := 51) rfl rfl (fun _ => ?_) (fun c => absurd c (by decide))
    refine r_aload_n (p := 82) rfl rfl rfl ?_
    refine r_cV (p := 85) rfl rfl rfl (Nat.le_of_ble_eq_true rfl) rfl (s_X5_readSemicolon R4 (fun F5 R5 f5 => ?_))
    refine r_aload_n (p := 86) rfl rfl rfl ?_
    refine r_dup (p := 87) rfl rfl rfl ?_
    refine r_getI (p := 90) rfl rfl rfl rfl ?_
    refine r_iconst (v := 1) (p := 91) rfl rfl rfl ?_
    refine r_iadd (p := 92) rfl rfl ?_
    refine r_putI (p := 95) rfl rfl rfl rfl ?_
    have RI := R5.inc
    refine r_aload_n (p := 96) rfl rfl rfl ?_
    refine r_cV (p := 99) rfl rfl rfl (Nat.le_of_ble_eq_true rfl) rfl (s_X5_skip RI (fun F9 R9 f9 => ?_))
    have ec : cmd t (spc t p) = (1, (argsP t (aT 1) (lts t (spc t p)) none).1, semP t (argsP t (aT 1) (lts t (spc t p)) none).2.1 (argsP t (aT 1) (lts t (spc t p)) none).2.2) := by
      unfold cmd
      rw [if_neg (by rw [ew]; decide), ew]
    rw [ec] at hQ
    subst hcs
    refine r_return rfl (hQ F9 _ R9 (((((((f2.p.tr (fP.m (Or.inl rfl))).tr f3.p).tr (fP.m (Or.inr rfl))).tr f4.p).tr (fP.m (Or.inr rfl))).tr f5.p).tr (fP.c.tr f9.p)) (fun z => CM.app hM (by omega) (fun k hk => (uM_ne (by omega)).trans ((uM_ne (by omega)).trans ((uM_at).trans (if_neg (fun q => by have := nI_inj (by omega) (by omega) q; omega))))) (fun k i hk hi => (uM_at.trans (if_neg (ix3_ne (by omega) (by omega) hi (show 1 < 3 by omega) (by omega)))).trans ((uM_at.trans (if_neg (ix3_ne (by omega) (by omega) hi (show 0 < 3 by omega) (by omega)))).trans (uM_ne (by omega)))) ((uM_ne (by omega)).trans ((uM_ne (by omega)).trans (uM_at.trans (if_pos rfl)))) (by show 2 ≤ 3; omega) (fun i hi => ?_)))
    have hi : i < 2 := hi
    rcases (show i = 0 ∨ i = 1 by omega) with q | q
    · subst q; exact (uM_at.trans (if_neg (ix3_ne (by omega) (by omega) (show 0 < 3 by omega) (show 1 < 3 by omega) (by omega)))).trans (uM_at.trans (if_pos rfl))
    · subst q; exact uM_at.trans (if_pos rfl)
set_option maxRecDepth 100000 in
theorem pc_w2 {d : Nat} {Y : mY} {F : mF} {M : mM} {L : mL} {t : List Int32} {p c : Nat} {cs : List (Nat × List Int32)} {Q : Option Value → mW → Prop} (H : PS t F M p none c) (hE : eOk (mXY Y)) (hc : c < 25) (hcs : cs.length = c) (hM : CM M cs) {F2 : mF} (ew : wrd t (spc t p) (lts t (spc t p)) = 2) (R2 : PS t F2 M (lts t (spc t p)) none c) (f2 : fQ F F2) (hQ : (∀ F' M', PS t F' M' (spc t (cmd t (spc t p)).2.2.1) (cmd t (spc t p)).2.2.2 (if (cmd t (spc t p)).1 = 6 then c else c + 1) → fP F M F' M' → ((cmd t (spc t p)).2.2.2 = none → CM M' (cs ++ [((cmd t (spc t p)).1, (cmd t (spc t p)).2.1)])) → Q none (mXY Y, F', M', L))) : Wp (d + 7) tX5_parseCommand 8 [some (.ref 29), none, none, none] [.int 2] (mXY Y, F2, M, L) Q := by
  have h3 := H.2.2.2.2.2
  refine r_istore_n (p := 9) rfl rfl rfl ?_
  refine r_iload_n (p := 10) rfl rfl rfl ?_
  refine r_if_lt (p := 13) rfl rfl (fun c => absurd c (by decide)) (fun _ => ?_)
  refine r_iload_n (p := 14) rfl rfl rfl ?_
  refine r_getsR (p := 17) rfl rfl rfl ?_
  refine r_alen_i (v := 6) (p := 18) rfl rfl rfl rfl ?_
  refine r_icmp_ge (p := 21) rfl rfl (fun c => absurd c (by decide)) (fun _ => ?_)
  refine r_aload_n (p := 22) rfl rfl rfl ?_
  refine r_getI (p := 25) rfl rfl rfl rfl ?_
  rw [R2.2.2.2.1]
  refine r_bipush (v := 25) (p := 27) rfl rfl rfl ?_
  refine r_icmp_ge (p := 30) rfl rfl (fun c1 => ?_) (fun c1 => ?_)
  · exact absurd c1 (nI_ge (a := c) (b := 25) hc (by omega))
  · refine r_aload_n (p := 31) rfl rfl rfl ?_
    refine r_getR (p := 34) rfl rfl rfl rfl rfl ?_
    refine r_aload_n (p := 35) rfl rfl rfl ?_
    refine r_getI (p := 38) rfl rfl rfl rfl ?_
    rw [R2.2.2.2.1]
    refine r_iload_n (p := 39) rfl rfl rfl ?_
    refine r_iast (p := 40) rfl rfl rfl (vp_in_nI (show c < 25 by omega) (by omega)) (by decide) rfl ?_
    have R2 := R2.m (h := 30) (i := nI c) (x := 2) (Or.inl rfl)
    refine r_iconst (v := 0) (p := 41) rfl rfl rfl ?_
    refine r_istore_n (p := 42) rfl rfl rfl ?_
    refine r_iload_n (p := 43) rfl rfl rfl ?_
    refine r_getsR (p := 46) rfl rfl rfl ?_
    refine r_iload_n (p := 47) rfl rfl rfl ?_
    refine r_iald_ro (p := 48) rfl rfl rfl (vpi (v := 6) (by decide) rfl (by decide) (by decide)) rfl ?_
    rw [show mroM (mXY Y).2.2.2.2 1000200 2 = 3 from rfl]
    refine r_icmp_ge (p := 51) rfl rfl (fun c => absurd c (by decide)) (fun _ => ?_)
    refine r_aload_n (p := 52) rfl rfl rfl ?_
    refine r_iload_n (p := 53) rfl rfl rfl ?_
    refine r_iload_n (p := 54) rfl rfl rfl ?_
    refine r_cS1 (p := 57) rfl rfl (Nat.le_of_ble_eq_true rfl) rfl (s_X5_takesTarget ?_)
    rw [show f_X5_takesTarget _ _ 2 0 = (if false = true then 1 else 0) from rfl]
    refine r_cV (p := 60) rfl rfl rfl (Nat.le_of_ble_eq_true rfl) rfl (s_X5_readArgument (g := false) R2 (fun F3 R3 f3 => ?_))
    refine r_istore_n (p := 61) rfl rfl rfl ?_
    refine r_aload_n (p := 62) rfl rfl rfl ?_
    refine r_getR (p := 65) rfl rfl rfl rfl rfl ?_
    refine r_aload_n (p := 66) rfl rfl rfl ?_
    refine r_getI (p := 69) rfl rfl rfl rfl ?_
    rw [R3.2.2.2.1]
    refine r_iconst (v := 3) (p := 70) rfl rfl rfl ?_
    refine r_imul (p := 71) rfl rfl ?_
    refine r_iload_n (p := 72) rfl rfl rfl ?_
    refine r_iadd (p := 73) rfl rfl ?_
    refine r_iload_n (p := 74) rfl rfl rfl ?_
    refine r_iast (p := 75) rfl rfl rfl (vp75 (j := 0) hc (by omega)) (by decide) rfl ?_
    have R3 := R3.m (h := 31) (i := nI c * 3 + 0) (x := (argP t false (lts t (spc t p))).1) (Or.inr rfl)
    refine r_iinc (v := 1) (p := 78) rfl rfl rfl rfl rfl ?_
    refine r_goto rfl ?_
    refine r_iload_n (p := 43) rfl rfl rfl ?_
    refine r_getsR (p := 46) rfl rfl rfl ?_
    refine r_iload_n (p := 47) rfl rfl rfl ?_
    refine r_iald_ro (p := 48) rfl rfl rfl (vpi (v := 6) (by decide) rfl (by decide) (by decide)) rfl ?_
    rw [show mroM (mXY Y).2.2.2.2 1000200 2 = 3 from rfl]
    refine r_icmp_ge (p := 51) rfl rfl (fun c => absurd c (by decide)) (fun _ => ?_)
    refine r_aload_n (p := 52) rfl rfl rfl ?_
    refine r_iload_n (p := 53) rfl rfl rfl ?_
    refine r_iload_n (p := 54) rfl rfl rfl ?_
    refine r_cS1 (p := 57) rfl rfl (Nat.le_of_ble_eq_true rfl) rfl (s_X5_takesTarget ?_)
    rw [show f_X5_takesTarget _ _ 2 1 = (if false = true then 1 else 0) from rfl]
    refine r_cV (p := 60) rfl rfl rfl (Nat.le_of_ble_eq_true rfl) rfl (s_X5_readArgument (g := false) R3 (fun F4 R4 f4 => ?_))
    refine r_istore_n (p := 61) rfl rfl rfl ?_
    refine r_aload_n (p := 62) rfl rfl rfl ?_
    refine r_getR (p := 65) rfl rfl rfl rfl rfl ?_
    refine r_aload_n (p := 66) rfl rfl rfl ?_
    refine r_getI (p := 69) rfl rfl rfl rfl ?_
    rw [R4.2.2.2.1]
    refine r_iconst (v := 3) (p := 70) rfl rfl rfl ?_
    refine r_imul (p := 71) rfl rfl ?_
    refine r_iload_n (p := 72) rfl rfl rfl ?_
    refine r_iadd (p := 73) rfl rfl ?_
    refine r_iload_n (p := 74) rfl rfl rfl ?_
    refine r_iast (p := 75) rfl rfl rfl (vp75 (j := 1) hc (by omega)) (by decide) rfl ?_
    have R4 := R4.m (h := 31) (i := nI c * 3 + 1) (x := (argP t false (argP t false (lts t (spc t p))).2.1).1) (Or.inr rfl)
    refine r_iinc (v := 2) (p := 78) rfl rfl rfl rfl rfl ?_
    refine r_goto rfl ?_
    refine r_iload_n (p := 43) rfl rfl rfl ?_
    refine r_getsR (p := 46) rfl rfl rfl ?_
    refine r_iload_n (p := 47) rfl rfl rfl ?_
    refine r_iald_ro (p := 48) rfl rfl rfl (vpi (v := 6) (by decide) rfl (by decide) (by decide)) rfl ?_
    rw [show mroM (mXY Y).2.2.2.2 1000200 2 = 3 from rfl]
    refine r_icmp_ge (p := 51) rfl rfl (fun c => absurd c (by decide)) (fun _ => ?_)
    refine r_aload_n (p := 52) rfl rfl rfl ?_
    refine r_iload_n (p := 53) rfl rfl rfl ?_
    refine r_iload_n (p := 54) rfl rfl rfl ?_
    refine r_cS1 (p := 57) rfl rfl (Nat.le_of_ble_eq_true rfl) rfl (s_X5_takesTarget ?_)
    rw [show f_X5_takesTarget _ _ 2 2 = (if true = true then 1 else 0) from rfl]
    refine r_cV (p := 60) rfl rfl rfl (Nat.le_of_ble_eq_true rfl) rfl (s_X5_readArgument (g := true) R4 (fun F5 R5 f5 => ?_))
    refine r_istore_n (p := 61) rfl rfl rfl ?_
    refine r_aload_n (p := 62) rfl rfl rfl ?_
    refine r_getR (p := 65) rfl rfl rfl rfl rfl ?_
    refine r_aload_n (p := 66) rfl rfl rfl ?_
    refine r_getI (p := 69) rfl rfl rfl rfl ?_
    rw [R5.2.2.2.1]
    refine r_iconst (v := 3) (p := 70) rfl rfl rfl ?_
    refine r_imul (p := 71) rfl rfl ?_
    refine r_iload_n (p := 72) rfl rfl rfl ?_
    refine r_iadd (p := 73) rfl rfl ?_
    refine r_iload_n (p := 74) rfl rfl rfl ?_
    refine r_iast (p := 75) rfl rfl rfl (vp75 (j := 2) hc (by omega)) (by decide) rfl ?_
    have R5 := R5.m (h := 31) (i := nI c * 3 + 2) (x := (argP t true (argP t false (argP t false (lts t (spc t p))).2.1).2.1).1) (Or.inr rfl)
    refine r_iinc (v := 3) (p := 78) rfl rfl rfl rfl rfl ?_
    refine r_goto rfl ?_
    refine r_iload_n (p := 43) rfl rfl rfl ?_
    refine r_getsR (p := 46) rfl rfl rfl ?_
    refine r_iload_n (p := 47) rfl rfl rfl ?_
    refine r_iald_ro (p := 48) rfl rfl rfl (vpi (v := 6) (by decide) rfl (by decide) (by decide)) rfl ?_
    rw [show mroM (mXY Y).2.2.2.2 1000200 2 = 3 from rfl]
    refine r_icmp_ge (p := 51) rfl rfl (fun _ => ?_) (fun c => absurd c (by decide))
    refine r_aload_n (p := 82) rfl rfl rfl ?_
    refine r_cV (p := 85) rfl rfl rfl (Nat.le_of_ble_eq_true rfl) rfl (s_X5_readSemicolon R5 (fun F6 R6 f6 => ?_))
    refine r_aload_n (p := 86) rfl rfl rfl ?_
    refine r_dup (p := 87) rfl rfl rfl ?_
    refine r_getI (p := 90) rfl rfl rfl rfl ?_
    refine r_iconst (v := 1) (p := 91) rfl rfl rfl ?_
    refine r_iadd (p := 92) rfl rfl ?_
    refine r_putI (p := 95) rfl rfl rfl rfl ?_
    have RI := R6.inc
    refine r_aload_n (p := 96) rfl rfl rfl ?_
    refine r_cV (p := 99) rfl rfl rfl (Nat.le_of_ble_eq_true rfl) rfl (s_X5_skip RI (fun F9 R9 f9 => ?_))
    have ec : cmd t (spc t p) = (2, (argsP t (aT 2) (lts t (spc t p)) none).1, semP t (argsP t (aT 2) (lts t (spc t p)) none).2.1 (argsP t (aT 2) (lts t (spc t p)) none).2.2) := by
      unfold cmd
      rw [if_neg (by rw [ew]; decide), ew]
    rw [ec] at hQ
    subst hcs
    refine r_return rfl (hQ F9 _ R9 (((((((((f2.p.tr (fP.m (Or.inl rfl))).tr f3.p).tr (fP.m (Or.inr rfl))).tr f4.p).tr (fP.m (Or.inr rfl))).tr f5.p).tr (fP.m (Or.inr rfl))).tr f6.p).tr (fP.c.tr f9.p)) (fun z => CM.app hM (by omega) (fun k hk => (uM_ne (by omega)).trans ((uM_ne (by omega)).trans ((uM_ne (by omega)).trans ((uM_at).trans (if_neg (fun q => by have := nI_inj (by omega) (by omega) q; omega)))))) (fun k i hk hi => (uM_at.trans (if_neg (ix3_ne (by omega) (by omega) hi (show 2 < 3 by omega) (by omega)))).trans ((uM_at.trans (if_neg (ix3_ne (by omega) (by omega) hi (show 1 < 3 by omega) (by omega)))).trans ((uM_at.trans (if_neg (ix3_ne (by omega) (by omega) hi (show 0 < 3 by omega) (by omega)))).trans (uM_ne (by omega))))) ((uM_ne (by omega)).trans ((uM_ne (by omega)).trans ((uM_ne (by omega)).trans (uM_at.trans (if_pos rfl))))) (by show 3 ≤ 3; omega) (fun i hi => ?_)))
    have hi : i < 3 := hi
    rcases (show i = 0 ∨ i = 1 ∨ i = 2 by omega) with q | q | q
    · subst q; exact (uM_at.trans (if_neg (ix3_ne (by omega) (by omega) (show 0 < 3 by omega) (show 2 < 3 by omega) (by omega)))).trans ((uM_at.trans (if_neg (ix3_ne (by omega) (by omega) (show 0 < 3 by omega) (show 1 < 3 by omega) (by omega)))).trans (uM_at.trans (if_pos rfl)))
    · subst q; exact (uM_at.trans (if_neg (ix3_ne (by omega) (by omega) (show 1 < 3 by omega) (show 2 < 3 by omega) (by omega)))).trans (uM_at.trans (if_pos rfl))
    · subst q; exact uM_at.trans (if_pos rfl)
set_option maxRecDepth 100000 in
theorem pc_w3 {d : Nat} {Y : mY} {F : mF} {M : mM} {L : mL} {t : List Int32} {p c : Nat} {cs : List (Nat × List Int32)} {Q : Option Value → mW → Prop} (H : PS t F M p none c) (hE : eOk (mXY Y)) (hc : c < 25) (hcs : cs.length = c) (hM : CM M cs) {F2 : mF} (ew : wrd t (spc t p) (lts t (spc t p)) = 3) (R2 : PS t F2 M (lts t (spc t p)) none c) (f2 : fQ F F2) (hQ : (∀ F' M', PS t F' M' (spc t (cmd t (spc t p)).2.2.1) (cmd t (spc t p)).2.2.2 (if (cmd t (spc t p)).1 = 6 then c else c + 1) → fP F M F' M' → ((cmd t (spc t p)).2.2.2 = none → CM M' (cs ++ [((cmd t (spc t p)).1, (cmd t (spc t p)).2.1)])) → Q none (mXY Y, F', M', L))) : Wp (d + 7) tX5_parseCommand 8 [some (.ref 29), none, none, none] [.int 3] (mXY Y, F2, M, L) Q := by
  have h3 := H.2.2.2.2.2
  refine r_istore_n (p := 9) rfl rfl rfl ?_
  refine r_iload_n (p := 10) rfl rfl rfl ?_
  refine r_if_lt (p := 13) rfl rfl (fun c => absurd c (by decide)) (fun _ => ?_)
  refine r_iload_n (p := 14) rfl rfl rfl ?_
  refine r_getsR (p := 17) rfl rfl rfl ?_
  refine r_alen_i (v := 6) (p := 18) rfl rfl rfl rfl ?_
  refine r_icmp_ge (p := 21) rfl rfl (fun c => absurd c (by decide)) (fun _ => ?_)
  refine r_aload_n (p := 22) rfl rfl rfl ?_
  refine r_getI (p := 25) rfl rfl rfl rfl ?_
  rw [R2.2.2.2.1]
  refine r_bipush (v := 25) (p := 27) rfl rfl rfl ?_
  refine r_icmp_ge (p := 30) rfl rfl (fun c1 => ?_) (fun c1 => ?_)
  · exact absurd c1 (nI_ge (a := c) (b := 25) hc (by omega))
  · refine r_aload_n (p := 31) rfl rfl rfl ?_
    refine r_getR (p := 34) rfl rfl rfl rfl rfl ?_
    refine r_aload_n (p := 35) rfl rfl rfl ?_
    refine r_getI (p := 38) rfl rfl rfl rfl ?_
    rw [R2.2.2.2.1]
    refine r_iload_n (p := 39) rfl rfl rfl ?_
    refine r_iast (p := 40) rfl rfl rfl (vp_in_nI (show c < 25 by omega) (by omega)) (by decide) rfl ?_
    have R2 := R2.m (h := 30) (i := nI c) (x := 3) (Or.inl rfl)
    refine r_iconst (v := 0) (p := 41) rfl rfl rfl ?_
    refine r_istore_n (p := 42) rfl rfl rfl ?_
    refine r_iload_n (p := 43) rfl rfl rfl ?_
    refine r_getsR (p := 46) rfl rfl rfl ?_
    refine r_iload_n (p := 47) rfl rfl rfl ?_
    refine r_iald_ro (p := 48) rfl rfl rfl (vpi (v := 6) (by decide) rfl (by decide) (by decide)) rfl ?_
    rw [show mroM (mXY Y).2.2.2.2 1000200 3 = 0 from rfl]
    refine r_icmp_ge (p := 51) rfl rfl (fun _ => ?_) (fun c => absurd c (by decide))
    refine r_aload_n (p := 82) rfl rfl rfl ?_
    refine r_cV (p := 85) rfl rfl rfl (Nat.le_of_ble_eq_true rfl) rfl (s_X5_readSemicolon R2 (fun F3 R3 f3 => ?_))
    refine r_aload_n (p := 86) rfl rfl rfl ?_
    refine r_dup (p := 87) rfl rfl rfl ?_
    refine r_getI (p := 90) rfl rfl rfl rfl ?_
    refine r_iconst (v := 1) (p := 91) rfl rfl rfl ?_
    refine r_iadd (p := 92) rfl rfl ?_
    refine r_putI (p := 95) rfl rfl rfl rfl ?_
    have RI := R3.inc
    refine r_aload_n (p := 96) rfl rfl rfl ?_
    refine r_cV (p := 99) rfl rfl rfl (Nat.le_of_ble_eq_true rfl) rfl (s_X5_skip RI (fun F9 R9 f9 => ?_))
    have ec : cmd t (spc t p) = (3, (argsP t (aT 3) (lts t (spc t p)) none).1, semP t (argsP t (aT 3) (lts t (spc t p)) none).2.1 (argsP t (aT 3) (lts t (spc t p)) none).2.2) := by
      unfold cmd
      rw [if_neg (by rw [ew]; decide), ew]
    rw [ec] at hQ
    subst hcs
    refine r_return rfl (hQ F9 _ R9 (((f2.p.tr (fP.m (Or.inl rfl))).tr f3.p).tr (fP.c.tr f9.p)) (fun z => CM.app hM (by omega) (fun k hk => (uM_at).trans (if_neg (fun q => by have := nI_inj (by omega) (by omega) q; omega))) (fun k i hk hi => uM_ne (by omega)) (uM_at.trans (if_pos rfl)) (by show 0 ≤ 3; omega) (fun i hi => ?_)))
    have hi : i < 0 := hi
    omega
set_option maxRecDepth 100000 in
theorem pc_w4 {d : Nat} {Y : mY} {F : mF} {M : mM} {L : mL} {t : List Int32} {p c : Nat} {cs : List (Nat × List Int32)} {Q : Option Value → mW → Prop} (H : PS t F M p none c) (hE : eOk (mXY Y)) (hc : c < 25) (hcs : cs.length = c) (hM : CM M cs) {F2 : mF} (ew : wrd t (spc t p) (lts t (spc t p)) = 4) (R2 : PS t F2 M (lts t (spc t p)) none c) (f2 : fQ F F2) (hQ : (∀ F' M', PS t F' M' (spc t (cmd t (spc t p)).2.2.1) (cmd t (spc t p)).2.2.2 (if (cmd t (spc t p)).1 = 6 then c else c + 1) → fP F M F' M' → ((cmd t (spc t p)).2.2.2 = none → CM M' (cs ++ [((cmd t (spc t p)).1, (cmd t (spc t p)).2.1)])) → Q none (mXY Y, F', M', L))) : Wp (d + 7) tX5_parseCommand 8 [some (.ref 29), none, none, none] [.int 4] (mXY Y, F2, M, L) Q := by
  have h3 := H.2.2.2.2.2
  refine r_istore_n (p := 9) rfl rfl rfl ?_
  refine r_iload_n (p := 10) rfl rfl rfl ?_
  refine r_if_lt (p := 13) rfl rfl (fun c => absurd c (by decide)) (fun _ => ?_)
  refine r_iload_n (p := 14) rfl rfl rfl ?_
  refine r_getsR (p := 17) rfl rfl rfl ?_
  refine r_alen_i (v := 6) (p := 18) rfl rfl rfl rfl ?_
  refine r_icmp_ge (p := 21) rfl rfl (fun c => absurd c (by decide)) (fun _ => ?_)
  refine r_aload_n (p := 22) rfl rfl rfl ?_
  refine r_getI (p := 25) rfl rfl rfl rfl ?_
  rw [R2.2.2.2.1]
  refine r_bipush (v := 25) (p := 27) rfl rfl rfl ?_
  refine r_icmp_ge (p := 30) rfl rfl (fun c1 => ?_) (fun c1 => ?_)
  · exact absurd c1 (nI_ge (a := c) (b := 25) hc (by omega))
  · refine r_aload_n (p := 31) rfl rfl rfl ?_
    refine r_getR (p := 34) rfl rfl rfl rfl rfl ?_
    refine r_aload_n (p := 35) rfl rfl rfl ?_
    refine r_getI (p := 38) rfl rfl rfl rfl ?_
    rw [R2.2.2.2.1]
    refine r_iload_n (p := 39) rfl rfl rfl ?_
    refine r_iast (p := 40) rfl rfl rfl (vp_in_nI (show c < 25 by omega) (by omega)) (by decide) rfl ?_
    have R2 := R2.m (h := 30) (i := nI c) (x := 4) (Or.inl rfl)
    refine r_iconst (v := 0) (p := 41) rfl rfl rfl ?_
    refine r_istore_n (p := 42) rfl rfl rfl ?_
    refine r_iload_n (p := 43) rfl rfl rfl ?_
    refine r_getsR (p := 46) rfl rfl rfl ?_
    refine r_iload_n (p := 47) rfl rfl rfl ?_
    refine r_iald_ro (p := 48) rfl rfl rfl (vpi (v := 6) (by decide) rfl (by decide) (by decide)) rfl ?_
    rw [show mroM (mXY Y).2.2.2.2 1000200 4 = 0 from rfl]
    refine r_icmp_ge (p := 51) rfl rfl (fun _ => ?_) (fun c => absurd c (by decide))
    refine r_aload_n (p := 82) rfl rfl rfl ?_
    refine r_cV (p := 85) rfl rfl rfl (Nat.le_of_ble_eq_true rfl) rfl (s_X5_readSemicolon R2 (fun F3 R3 f3 => ?_))
    refine r_aload_n (p := 86) rfl rfl rfl ?_
    refine r_dup (p := 87) rfl rfl rfl ?_
    refine r_getI (p := 90) rfl rfl rfl rfl ?_
    refine r_iconst (v := 1) (p := 91) rfl rfl rfl ?_
    refine r_iadd (p := 92) rfl rfl ?_
    refine r_putI (p := 95) rfl rfl rfl rfl ?_
    have RI := R3.inc
    refine r_aload_n (p := 96) rfl rfl rfl ?_
    refine r_cV (p := 99) rfl rfl rfl (Nat.le_of_ble_eq_true rfl) rfl (s_X5_skip RI (fun F9 R9 f9 => ?_))
    have ec : cmd t (spc t p) = (4, (argsP t (aT 4) (lts t (spc t p)) none).1, semP t (argsP t (aT 4) (lts t (spc t p)) none).2.1 (argsP t (aT 4) (lts t (spc t p)) none).2.2) := by
      unfold cmd
      rw [if_neg (by rw [ew]; decide), ew]
    rw [ec] at hQ
    subst hcs
    refine r_return rfl (hQ F9 _ R9 (((f2.p.tr (fP.m (Or.inl rfl))).tr f3.p).tr (fP.c.tr f9.p)) (fun z => CM.app hM (by omega) (fun k hk => (uM_at).trans (if_neg (fun q => by have := nI_inj (by omega) (by omega) q; omega))) (fun k i hk hi => uM_ne (by omega)) (uM_at.trans (if_pos rfl)) (by show 0 ≤ 3; omega) (fun i hi => ?_)))
    have hi : i < 0 := hi
    omega
set_option maxRecDepth 100000 in
theorem pc_w5 {d : Nat} {Y : mY} {F : mF} {M : mM} {L : mL} {t : List Int32} {p c : Nat} {cs : List (Nat × List Int32)} {Q : Option Value → mW → Prop} (H : PS t F M p none c) (hE : eOk (mXY Y)) (hc : c < 25) (hcs : cs.length = c) (hM : CM M cs) {F2 : mF} (ew : wrd t (spc t p) (lts t (spc t p)) = 5) (R2 : PS t F2 M (lts t (spc t p)) none c) (f2 : fQ F F2) (hQ : (∀ F' M', PS t F' M' (spc t (cmd t (spc t p)).2.2.1) (cmd t (spc t p)).2.2.2 (if (cmd t (spc t p)).1 = 6 then c else c + 1) → fP F M F' M' → ((cmd t (spc t p)).2.2.2 = none → CM M' (cs ++ [((cmd t (spc t p)).1, (cmd t (spc t p)).2.1)])) → Q none (mXY Y, F', M', L))) : Wp (d + 7) tX5_parseCommand 8 [some (.ref 29), none, none, none] [.int 5] (mXY Y, F2, M, L) Q := by
  have h3 := H.2.2.2.2.2
  refine r_istore_n (p := 9) rfl rfl rfl ?_
  refine r_iload_n (p := 10) rfl rfl rfl ?_
  refine r_if_lt (p := 13) rfl rfl (fun c => absurd c (by decide)) (fun _ => ?_)
  refine r_iload_n (p := 14) rfl rfl rfl ?_
  refine r_getsR (p := 17) rfl rfl rfl ?_
  refine r_alen_i (v := 6) (p := 18) rfl rfl rfl rfl ?_
  refine r_icmp_ge (p := 21) rfl rfl (fun c => absurd c (by decide)) (fun _ => ?_)
  refine r_aload_n (p := 22) rfl rfl rfl ?_
  refine r_getI (p := 25) rfl rfl rfl rfl ?_
  rw [R2.2.2.2.1]
  refine r_bipush (v := 25) (p := 27) rfl rfl rfl ?_
  refine r_icmp_ge (p := 30) rfl rfl (fun c1 => ?_) (fun c1 => ?_)
  · exact absurd c1 (nI_ge (a := c) (b := 25) hc (by omega))
  · refine r_aload_n (p := 31) rfl rfl rfl ?_
    refine r_getR (p := 34) rfl rfl rfl rfl rfl ?_
    refine r_aload_n (p := 35) rfl rfl rfl ?_
    refine r_getI (p := 38) rfl rfl rfl rfl ?_
    rw [R2.2.2.2.1]
    refine r_iload_n (p := 39) rfl rfl rfl ?_
    refine r_iast (p := 40) rfl rfl rfl (vp_in_nI (show c < 25 by omega) (by omega)) (by decide) rfl ?_
    have R2 := R2.m (h := 30) (i := nI c) (x := 5) (Or.inl rfl)
    refine r_iconst (v := 0) (p := 41) rfl rfl rfl ?_
    refine r_istore_n (p := 42) rfl rfl rfl ?_
    refine r_iload_n (p := 43) rfl rfl rfl ?_
    refine r_getsR (p := 46) rfl rfl rfl ?_
    refine r_iload_n (p := 47) rfl rfl rfl ?_
    refine r_iald_ro (p := 48) rfl rfl rfl (vpi (v := 6) (by decide) rfl (by decide) (by decide)) rfl ?_
    rw [show mroM (mXY Y).2.2.2.2 1000200 5 = 1 from rfl]
    refine r_icmp_ge (p := 51) rfl rfl (fun c => absurd c (by decide)) (fun _ => ?_)
    refine r_aload_n (p := 52) rfl rfl rfl ?_
    refine r_iload_n (p := 53) rfl rfl rfl ?_
    refine r_iload_n (p := 54) rfl rfl rfl ?_
    refine r_cS1 (p := 57) rfl rfl (Nat.le_of_ble_eq_true rfl) rfl (s_X5_takesTarget ?_)
    rw [show f_X5_takesTarget _ _ 5 0 = (if false = true then 1 else 0) from rfl]
    refine r_cV (p := 60) rfl rfl rfl (Nat.le_of_ble_eq_true rfl) rfl (s_X5_readArgument (g := false) R2 (fun F3 R3 f3 => ?_))
    refine r_istore_n (p := 61) rfl rfl rfl ?_
    refine r_aload_n (p := 62) rfl rfl rfl ?_
    refine r_getR (p := 65) rfl rfl rfl rfl rfl ?_
    refine r_aload_n (p := 66) rfl rfl rfl ?_
    refine r_getI (p := 69) rfl rfl rfl rfl ?_
    rw [R3.2.2.2.1]
    refine r_iconst (v := 3) (p := 70) rfl rfl rfl ?_
    refine r_imul (p := 71) rfl rfl ?_
    refine r_iload_n (p := 72) rfl rfl rfl ?_
    refine r_iadd (p := 73) rfl rfl ?_
    refine r_iload_n (p := 74) rfl rfl rfl ?_
    refine r_iast (p := 75) rfl rfl rfl (vp75 (j := 0) hc (by omega)) (by decide) rfl ?_
    have R3 := R3.m (h := 31) (i := nI c * 3 + 0) (x := (argP t false (lts t (spc t p))).1) (Or.inr rfl)
    refine r_iinc (v := 1) (p := 78) rfl rfl rfl rfl rfl ?_
    refine r_goto rfl ?_
    refine r_iload_n (p := 43) rfl rfl rfl ?_
    refine r_getsR (p := 46) rfl rfl rfl ?_
    refine r_iload_n (p := 47) rfl rfl rfl ?_
    refine r_iald_ro (p := 48) rfl rfl rfl (vpi (v := 6) (by decide) rfl (by decide) (by decide)) rfl ?_
    rw [show mroM (mXY Y).2.2.2.2 1000200 5 = 1 from rfl]
    refine r_icmp_ge (p := 51) rfl rfl (fun _ => ?_) (fun c => absurd c (by decide))
    refine r_aload_n (p := 82) rfl rfl rfl ?_
    refine r_cV (p := 85) rfl rfl rfl (Nat.le_of_ble_eq_true rfl) rfl (s_X5_readSemicolon R3 (fun F4 R4 f4 => ?_))
    refine r_aload_n (p := 86) rfl rfl rfl ?_
    refine r_dup (p := 87) rfl rfl rfl ?_
    refine r_getI (p := 90) rfl rfl rfl rfl ?_
    refine r_iconst (v := 1) (p := 91) rfl rfl rfl ?_
    refine r_iadd (p := 92) rfl rfl ?_
    refine r_putI (p := 95) rfl rfl rfl rfl ?_
    have RI := R4.inc
    refine r_aload_n (p := 96) rfl rfl rfl ?_
    refine r_cV (p := 99) rfl rfl rfl (Nat.le_of_ble_eq_true rfl) rfl (s_X5_skip RI (fun F9 R9 f9 => ?_))
    have ec : cmd t (spc t p) = (5, (argsP t (aT 5) (lts t (spc t p)) none).1, semP t (argsP t (aT 5) (lts t (spc t p)) none).2.1 (argsP t (aT 5) (lts t (spc t p)) none).2.2) := by
      unfold cmd
      rw [if_neg (by rw [ew]; decide), ew]
    rw [ec] at hQ
    subst hcs
    refine r_return rfl (hQ F9 _ R9 (((((f2.p.tr (fP.m (Or.inl rfl))).tr f3.p).tr (fP.m (Or.inr rfl))).tr f4.p).tr (fP.c.tr f9.p)) (fun z => CM.app hM (by omega) (fun k hk => (uM_ne (by omega)).trans ((uM_at).trans (if_neg (fun q => by have := nI_inj (by omega) (by omega) q; omega)))) (fun k i hk hi => (uM_at.trans (if_neg (ix3_ne (by omega) (by omega) hi (show 0 < 3 by omega) (by omega)))).trans (uM_ne (by omega))) ((uM_ne (by omega)).trans (uM_at.trans (if_pos rfl))) (by show 1 ≤ 3; omega) (fun i hi => ?_)))
    have hi : i < 1 := hi
    have q : i = 0 := by omega
    subst q; exact uM_at.trans (if_pos rfl)
set_option maxRecDepth 100000 in
theorem pc_w6 {d : Nat} {Y : mY} {F : mF} {M : mM} {L : mL} {t : List Int32} {p c : Nat} {cs : List (Nat × List Int32)} {Q : Option Value → mW → Prop} (H : PS t F M p none c) (hE : eOk (mXY Y)) (hc : c < 25) (hcs : cs.length = c) (hM : CM M cs) {F2 : mF} (ew : wrd t (spc t p) (lts t (spc t p)) = 6) (R2 : PS t F2 M (lts t (spc t p)) (fW none (some (spc t p))) c) (f2 : fQ F F2) (hQ : (∀ F' M', PS t F' M' (spc t (cmd t (spc t p)).2.2.1) (cmd t (spc t p)).2.2.2 (if (cmd t (spc t p)).1 = 6 then c else c + 1) → fP F M F' M' → ((cmd t (spc t p)).2.2.2 = none → CM M' (cs ++ [((cmd t (spc t p)).1, (cmd t (spc t p)).2.1)])) → Q none (mXY Y, F', M', L))) : Wp (d + 7) tX5_parseCommand 8 [some (.ref 29), none, none, none] [.int 6] (mXY Y, F2, M, L) Q := by
  have h3 := H.2.2.2.2.2
  refine r_istore_n (p := 9) rfl rfl rfl ?_
  refine r_iload_n (p := 10) rfl rfl rfl ?_
  refine r_if_lt (p := 13) rfl rfl (fun c => absurd c (by decide)) (fun _ => ?_)
  refine r_iload_n (p := 14) rfl rfl rfl ?_
  refine r_getsR (p := 17) rfl rfl rfl ?_
  refine r_alen_i (v := 6) (p := 18) rfl rfl rfl rfl ?_
  refine r_icmp_ge (p := 21) rfl rfl (fun _ => ?_) (fun c => absurd c (by decide))
  refine r_aload_n (p := 96) rfl rfl rfl ?_
  refine r_cV (p := 99) rfl rfl rfl (Nat.le_of_ble_eq_true rfl) rfl (s_X5_skip R2 (fun F9 R9 f9 => ?_))
  have ec : cmd t (spc t p) = (6, [], lts t (spc t p), some (spc t p)) := if_pos ew
  rw [ec] at hQ
  exact r_return rfl (hQ F9 M R9 (f2.tr f9).p (fun z => by cases z))
